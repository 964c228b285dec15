section
/-! ===== the reference: parts, sums, tags, conditions, as functions (printed by program) ===== -/
section T79h
variable {S : aS} {I : Nat → Nat → Int32} {L : Nat → Nat → Int64} {w1 w2 t : Nat} {e p b n0 : Nat} {T : Nat → Int32} {o : List Int32}
set_option maxRecDepth 100000
/-- a code as the reference keeps it: its step, its number -/
def stF (x : Int32) : Int32 := if x < 1000 then 9 else if x < 2000 then x - 1000 else x - 1990
def snF (x : Int32) : Int32 := if x < 1000 then x else 0
def RowS (W : Nat → Int32) : List Int32 → Prop
  | [] => True
  | x :: r => (W (1233 + 2 * r.length) = stF x ∧ W (1233 + 2 * r.length + 1) = snF x) ∧ RowS W r
theorem RowS.eq {W W' : Nat → Int32} : ∀ {r : List Int32}, RowS W r → (∀ k, 1233 ≤ k → k < 1233 + 2 * r.length → W' k = W k) → RowS W' r := by
  intro r
  induction r with
  | nil => exact fun _ _ => trivial
  | cons x r ih =>
    intro h f
    have f : ∀ k, 1233 ≤ k → k < 1233 + 2 * (r.length + 1) → W' k = W k := f
    exact ⟨⟨(f _ (by omega) (by omega)).trans h.1.1, (f _ (by omega) (by omega)).trans h.1.2⟩, ih h.2 fun k g1 g2 => f k g1 (by omega)⟩
theorem RowS.em {J : Nat → Nat → Int32} {x y z : Int32} {r : List Int32} (h : RowS (J 421) r) (hx : x = stF z) (hy : y = snF z) : RowS (emH J r.length x y 421) (z :: r) := ⟨⟨emH_0.trans hx, emH_1.trans hy⟩, RowS.eq h fun _ _ g2 => emH_lo g2⟩
/-- from I (n0 steps) to J: at p, what is next begins at b, emitted is o -/
def Cf (T : Nat → Int32) (e n0 b : Nat) (o : List Int32) (I J : Nat → Nat → Int32) (p : Nat) : Prop := Fm (sY n0) I J ∧ J 420 13 = I 420 13 ∧ Pp e p J ∧ rn T e 4 p = b ∧ J 420 16 = nI o.length ∧ RowS (J 421) o ∧ n0 ≤ o.length
theorem Cf.pp {J : Nat → Nat → Int32} (h : Cf T e n0 b o I J p) : Pp e p J := h.2.2.1
theorem Cf.nb {J : Nat → Nat → Int32} (h : Cf T e n0 b o I J p) : rn T e 4 p = b := h.2.2.2.1
theorem Cf.st {J : Nat → Nat → Int32} (h : Cf T e n0 b o I J p) : J 420 16 = nI o.length := h.2.2.2.2.1
theorem Cf.d {J : Nat → Nat → Int32} {x : Int32} (h : Cf T e n0 b o I J p) (hd : I 420 13 = x) : J 420 13 = x := h.2.1.trans hd
theorem Cf.tt {J : Nat → Nat → Int32} (h : Cf T e n0 b o I J p) (hT : I 426 = T) : J 426 = T := (funext fun k => h.1 426 k rfl).trans hT
theorem Cf.le {J : Nat → Nat → Int32} (h : Cf T e n0 b o I J p) : b ≤ e := by
  rw [← Cf.nb h]
  exact rn_le (Pp.le (Cf.pp h))
theorem Cf.e4 {J : Nat → Nat → Int32} (h : Cf T e n0 b o I J p) : e ≤ 400 := Pp.e4 (Cf.pp h)
theorem Cf.sk {J : Nat → Nat → Int32} (h : Cf T e n0 b o I J p) : rn T e 4 b = b := by
  rw [← Cf.nb h]
  exact rn_rn
theorem Cf.rd {J K : Nat → Nat → Int32} {b2 p' b' : Nat} (h : Cf T e n0 b o I J p) (r : Rd e p b2 p' J K) (hb : rn T e 4 p' = b') : Cf T e n0 b' o I K p' := ⟨Fm.tr h.1 (Fm.mo (Rd.fm r) sR_sY), (Rd.fm r 420 13 rfl).trans h.2.1, Rd.pp r, hb, (Rd.fm r 420 16 rfl).trans h.2.2.2.2.1, by rw [Rd.w r]; exact h.2.2.2.2.2.1, h.2.2.2.2.2.2⟩
theorem Cf.em {J : Nat → Nat → Int32} {x y z : Int32} (h : Cf T e n0 b o I J p) (hx : x = stF z) (hy : y = snF z) : Cf T e n0 b (z :: o) I (emH J o.length x y) p := ⟨Fm.tr h.1 (Fm.mo emH_fm (sY_mono h.2.2.2.2.2.2)), (emH_f (by decide)).trans h.2.1, Pp.em h.2.2.1, h.2.2.2.1, up2_at, RowS.em h.2.2.2.2.2.1 hx hy, by have := h.2.2.2.2.2.2; show n0 ≤ o.length + 1; omega⟩
theorem Cf.ef {J : Nat → Nat → Int32} {x y : Int32} (h : Cf T e n0 b o I J p) : Fm (sY n0) I (emH J o.length x y) := Fm.tr h.1 (Fm.mo emH_fm (sY_mono h.2.2.2.2.2.2))
theorem Cf.cc {K J : Nat → Nat → Int32} {b' p' : Nat} {o' : List Int32} (h : Cf T e n0 b o I J p) (g : Cf T e n0 b' o' J K p') : Cf T e n0 b' o' I K p' := ⟨Fm.tr h.1 g.1, g.2.1.trans h.2.1, g.2.2⟩
theorem Cf.rf {J : Nat → Nat → Int32} (h : Cf T e n0 b o I J p) : Cf T e n0 b o J J p := ⟨Fm.rf, rfl, h.2.2⟩
theorem Cf.up13 {J : Nat → Nat → Int32} {x : Int32} (h : Cf T e n0 b o I J p) : Cf T e n0 b o (up2 J 420 13 x) (up2 J 420 13 x) p := by
  obtain ⟨-, -, g1, g2, g3, g4, g5⟩ := h
  refine ⟨Fm.rf, rfl, ?_, g2, (up2_ne (Or.inr (by decide))).trans g3, ?_, g5⟩
  · unfold Pp
    rw [up2_ne (Or.inr (by decide)), up2_ne (Or.inr (by decide))]
    exact g1
  · rw [up2_row (by decide)]
    exact g4
theorem Cf.deep {J K : Nat → Nat → Int32} {b' p' : Nat} {o' : List Int32} {x y : Int32} (h : Cf T e n0 b o I J p) (hd : I 420 13 = x) (g : Cf T e n0 b' o' (up2 J 420 13 y) K p') : Cf T e n0 b' o' I (up2 K 420 13 x) p' := by
  obtain ⟨f, -, g1, g2, g3, g4, g5⟩ := g
  refine ⟨Fm.up (Fm.tr h.1 (Fm.tr (Fm.up Fm.rf rfl) f)) rfl, up2_at.trans hd.symm, ?_, g2, (up2_ne (Or.inr (by decide))).trans g3, ?_, g5⟩
  · unfold Pp
    rw [up2_ne (Or.inr (by decide)), up2_ne (Or.inr (by decide))]
    exact g1
  · rw [up2_row (by decide)]
    exact g4
/-- read as the function says -/
def QF (T : Nat → Int32) (e n0 : Nat) (r : PR) (I : Nat → Nat → Int32) (L : Nat → Nat → Int64) (w1 w2 t : Nat) : Option Value → aH → Prop := fun v h' => v = some (.int (bI r.1)) ∧ ∃ J p, h' = hp J L w1 w2 t ∧ (r.1 = true → Cf T e n0 r.2.1 r.2.2 I J p) ∧ (r.1 = false → Fm (sY n0) I J ∧ J 420 12 = nI r.2.1)
theorem QF.yes {J : Nat → Nat → Int32} (h : Cf T e n0 b o I J p) : QF T e n0 (true, b, o) I L w1 w2 t (some (.int (bI true))) (hp J L w1 w2 t) := ⟨rfl, J, p, rfl, fun _ => h, fun z => by cases z⟩
theorem QF.no {J : Nat → Nat → Int32} (f : Fm (sY n0) I J) (hb : J 420 12 = nI b) : QF T e n0 (false, b, o) I L w1 w2 t (some (.int (bI false))) (hp J L w1 w2 t) := ⟨rfl, J, 0, rfl, fun z => (by cases z), fun _ => ⟨f, hb⟩⟩
theorem Cf.no {J K : Nat → Nat → Int32} {b1 p1 : Nat} {o1 : List Int32} (h : Cf T e n0 b1 o1 I J p1) (f : Fm (sY n0) J K) (hb : K 420 12 = nI b) : QF T e n0 (false, b, o) I L w1 w2 t (some (.int (bI false))) (hp K L w1 w2 t) := QF.no (Fm.tr h.1 f) hb
theorem nx_of {b : Nat} : rn T e 4 (en T e b) = nx T e b := rfl
theorem atomR_gdo {D : Nat} {b : Nat} {o : List Int32} (h : b ≤ e) : Gd e b o (atomR T e D b o) := atomR_gd D b o h
theorem seqA_gd {D : Nat} {b : Nat} {o : List Int32} (h : b ≤ e) : Gd e b o (seqP T e (atomR T e D) 20 2004 b o) := seqP_gd (fun b o h => atomR_gd D b o h) h
/-- a part's number among the parts -/
def wpF (i : Nat) : Int32 := if i = 3 then 0 else if i = 24 then 1 else if i = 6 then 2 else if i = 7 then 3 else if i = 25 then 4 else if i = 26 then 5 else if i = 13 then 6 else -1
theorem wp_ok : ∀ i, i < 28 → (wpF i = -1 ∧ wPa i = -1) ∨ (¬ wpF i < 0 ∧ ¬ wPa i = -1 ∧ wpF i = stF (wPa i) ∧ 0 = snF (wPa i)) := by decide +kernel
theorem h_wordOfPart (hw : WdS S) (h12 : I 420 12 = nI b) (hbp : b ≤ p) (hq : Pp e p I) (hp1 : p = rn (I 426) e 1 b) : SpE S m_X12_wordOfPart 17 [.ref 420] (hp I L w1 w2 t) (some (.int (if kd (I 426) e b = 1 then wpF (wd (I 426) e b) else -1))) (hp I L w1 w2 t) := by
  have hi : ∀ k, k < 27 → isW (I 426) b (p - b) k = isWd (I 426) e b k := fun k hk => by
    rw [hp1]
    exact isW_wd hk
  refine SpE_of ok_X12_wordOfPart rfl rfl ?_
  show AW S m_X12_wordOfPart 17 _ _ 0 0 0 [some (.ref 420)] [] (hp I L w1 w2 t)
  refine a_l0 rfl rfl rfl ?_
  refine a_ldcs (q := 130 + 3) rfl (hw.ld (i := 3) (by decide)) ?_
  refine a_eV1 rfl lX12_109 mo_X12_isWord (h_isWord (k := 3) hw (by decide) h12 hbp hq) rfl rfl rfl ⟨12, _, rfl, rfl, rfl⟩ rfl ?_
  refine a_top (y := bI (isWd (I 426) e b 3)) (congrArg bI (hi 3 (by decide))) ?_
  cases c3 : isWd (I 426) e b 3 with
  | true =>
    refine a_if_eq rfl (fun z => absurd z (by decide)) (fun _ => ?_)
    refine a_s rfl rfl ?_
    refine a_iret rfl rfl ⟨?_, rfl⟩
    rw [if_pos (of_decide_eq_true c3).1, (of_decide_eq_true c3).2]
    rfl
  | false =>
  refine a_if_eq rfl (fun _ => ?_) (fun z => absurd rfl z)
  refine a_l0 rfl rfl rfl ?_
  refine a_ldcs (q := 130 + 24) rfl (hw.ld (i := 24) (by decide)) ?_
  refine a_eV1 rfl lX12_109 mo_X12_isWord (h_isWord (k := 24) hw (by decide) h12 hbp hq) rfl rfl rfl ⟨12, _, rfl, rfl, rfl⟩ rfl ?_
  refine a_top (y := bI (isWd (I 426) e b 24)) (congrArg bI (hi 24 (by decide))) ?_
  cases c24 : isWd (I 426) e b 24 with
  | true =>
    refine a_if_eq rfl (fun z => absurd z (by decide)) (fun _ => ?_)
    refine a_s rfl rfl ?_
    refine a_iret rfl rfl ⟨?_, rfl⟩
    rw [if_pos (of_decide_eq_true c24).1, (of_decide_eq_true c24).2]
    rfl
  | false =>
  refine a_if_eq rfl (fun _ => ?_) (fun z => absurd rfl z)
  refine a_l0 rfl rfl rfl ?_
  refine a_ldcs (q := 130 + 6) rfl (hw.ld (i := 6) (by decide)) ?_
  refine a_eV1 rfl lX12_109 mo_X12_isWord (h_isWord (k := 6) hw (by decide) h12 hbp hq) rfl rfl rfl ⟨12, _, rfl, rfl, rfl⟩ rfl ?_
  refine a_top (y := bI (isWd (I 426) e b 6)) (congrArg bI (hi 6 (by decide))) ?_
  cases c6 : isWd (I 426) e b 6 with
  | true =>
    refine a_if_eq rfl (fun z => absurd z (by decide)) (fun _ => ?_)
    refine a_s rfl rfl ?_
    refine a_iret rfl rfl ⟨?_, rfl⟩
    rw [if_pos (of_decide_eq_true c6).1, (of_decide_eq_true c6).2]
    rfl
  | false =>
  refine a_if_eq rfl (fun _ => ?_) (fun z => absurd rfl z)
  refine a_l0 rfl rfl rfl ?_
  refine a_ldcs (q := 130 + 7) rfl (hw.ld (i := 7) (by decide)) ?_
  refine a_eV1 rfl lX12_109 mo_X12_isWord (h_isWord (k := 7) hw (by decide) h12 hbp hq) rfl rfl rfl ⟨12, _, rfl, rfl, rfl⟩ rfl ?_
  refine a_top (y := bI (isWd (I 426) e b 7)) (congrArg bI (hi 7 (by decide))) ?_
  cases c7 : isWd (I 426) e b 7 with
  | true =>
    refine a_if_eq rfl (fun z => absurd z (by decide)) (fun _ => ?_)
    refine a_s rfl rfl ?_
    refine a_iret rfl rfl ⟨?_, rfl⟩
    rw [if_pos (of_decide_eq_true c7).1, (of_decide_eq_true c7).2]
    rfl
  | false =>
  refine a_if_eq rfl (fun _ => ?_) (fun z => absurd rfl z)
  refine a_l0 rfl rfl rfl ?_
  refine a_ldcs (q := 130 + 25) rfl (hw.ld (i := 25) (by decide)) ?_
  refine a_eV1 rfl lX12_109 mo_X12_isWord (h_isWord (k := 25) hw (by decide) h12 hbp hq) rfl rfl rfl ⟨12, _, rfl, rfl, rfl⟩ rfl ?_
  refine a_top (y := bI (isWd (I 426) e b 25)) (congrArg bI (hi 25 (by decide))) ?_
  cases c25 : isWd (I 426) e b 25 with
  | true =>
    refine a_if_eq rfl (fun z => absurd z (by decide)) (fun _ => ?_)
    refine a_s rfl rfl ?_
    refine a_iret rfl rfl ⟨?_, rfl⟩
    rw [if_pos (of_decide_eq_true c25).1, (of_decide_eq_true c25).2]
    rfl
  | false =>
  refine a_if_eq rfl (fun _ => ?_) (fun z => absurd rfl z)
  refine a_l0 rfl rfl rfl ?_
  refine a_ldcs (q := 130 + 26) rfl (hw.ld (i := 26) (by decide)) ?_
  refine a_eV1 rfl lX12_109 mo_X12_isWord (h_isWord (k := 26) hw (by decide) h12 hbp hq) rfl rfl rfl ⟨12, _, rfl, rfl, rfl⟩ rfl ?_
  refine a_top (y := bI (isWd (I 426) e b 26)) (congrArg bI (hi 26 (by decide))) ?_
  cases c26 : isWd (I 426) e b 26 with
  | true =>
    refine a_if_eq rfl (fun z => absurd z (by decide)) (fun _ => ?_)
    refine a_s rfl rfl ?_
    refine a_iret rfl rfl ⟨?_, rfl⟩
    rw [if_pos (of_decide_eq_true c26).1, (of_decide_eq_true c26).2]
    rfl
  | false =>
  refine a_if_eq rfl (fun _ => ?_) (fun z => absurd rfl z)
  refine a_l0 rfl rfl rfl ?_
  refine a_ldcs (q := 130 + 13) rfl (hw.ld (i := 13) (by decide)) ?_
  refine a_eV1 rfl lX12_109 mo_X12_isWord (h_isWord (k := 13) hw (by decide) h12 hbp hq) rfl rfl rfl ⟨12, _, rfl, rfl, rfl⟩ rfl ?_
  refine a_top (y := bI (isWd (I 426) e b 13)) (congrArg bI (hi 13 (by decide))) ?_
  cases c13 : isWd (I 426) e b 13 with
  | true =>
    refine a_if_eq rfl (fun z => absurd z (by decide)) (fun _ => ?_)
    refine a_s rfl rfl ?_
    refine a_goto rfl ?_
    refine a_iret rfl rfl ⟨?_, rfl⟩
    rw [if_pos (of_decide_eq_true c13).1, (of_decide_eq_true c13).2]
    rfl
  | false =>
  refine a_if_eq rfl (fun _ => ?_) (fun z => absurd rfl z)
  refine a_s rfl rfl ?_
  refine a_iret rfl rfl ⟨?_, rfl⟩
  by_cases c : kd (I 426) e b = 1
  · rw [if_pos c]
    have ne : ∀ k, isWd (I 426) e b k = false → wd (I 426) e b ≠ k := fun k hk z => by
      rw [show isWd (I 426) e b k = true from decide_eq_true ⟨c, z⟩] at hk
      cases hk
    unfold wpF
    rw [if_neg (ne 3 c3), if_neg (ne 24 c24), if_neg (ne 6 c6), if_neg (ne 7 c7), if_neg (ne 25 c25), if_neg (ne 26 c26), if_neg (ne 13 c13)]
  · rw [if_neg c]
def prtP (T : Nat → Int32) (e b : Nat) (o : List Int32) : PR := if prt T e b = -1 then (false, b, []) else (true, nx T e b, prt T e b :: o)
theorem nI_st : ∀ m, m < 1000 → (9 = stF (nI m) ∧ nI m = snF (nI m)) := by decide +kernel
theorem h_readPart (hw : WdS S) (hT : I 426 = T) (h : Cf T e n0 b o I I p) (hB : o.length < b) : Sp S m_X12_readPart 18 0 0 [.ref 420] (hp I L w1 w2 t) (QF T e n0 (prtP T e b o) I L w1 w2 t) nX := by
  have hbe := Cf.le h
  have he4 := Cf.e4 h
  have hskb := Cf.sk h
  refine Sp_of ok_X12_readPart rfl rfl ?_
  show AW S m_X12_readPart 18 _ _ 0 0 0 [some (.ref 420), none, none] [] (hp I L w1 w2 t)
  have bad : ∀ {z : Bool} {b' p' : Nat} {J : Nat → Nat → Int32}, prt T e b = -1 → Cf T e n0 b' o I J p' → o.length < 400 → J 420 12 = nI b → AW S m_X12_readPart 18 (QF T e n0 (prtP T e b o) I L w1 w2 t) nX 0 0 40 [some (.ref 420), some (.int (bI z)), none] [.int (-1)] (hp J L w1 w2 t) := by
    intro z b' p' J hp1 h2 ho4 hbeg
    rw [show prtP T e b o = (false, b, []) from if_pos hp1]
    have fin : ∀ {x y : Int32}, AW S m_X12_readPart 18 (QF T e n0 (false, b, []) I L w1 w2 t) nX 0 0 61 [some (.ref 420), some (.int (bI z)), some (.int (-1))] [.int y, .int x, .ref 420] (hp J L w1 w2 t) := by
      intro x y
      refine a_eV0 rfl lX12_180 mo_X12_emits (r_X12_emits (Cf.st h2) (by omega)) rfl rfl rfl ⟨12, _, rfl, rfl, rfl⟩ rfl ?_
      refine a_l2 rfl rfl rfl ?_
      refine a_if_lt rfl (fun _ => ?_) (fun c => absurd (by decide) c)
      refine a_s rfl rfl ?_
      exact a_zret rfl rfl rfl (QF.no (Cf.ef h2) ((emH_f (by decide)).trans hbeg))
    refine a_s2 rfl rfl rfl rfl rfl rfl ?_
    refine a_l0 rfl rfl rfl ?_
    refine a_l1 rfl rfl rfl ?_
    cases z with
    | false =>
      refine a_if_eq rfl (fun _ => ?_) (fun c => absurd rfl c)
      refine a_l2 rfl rfl rfl ?_
      refine a_l1 rfl rfl rfl ?_
      refine a_if_eq rfl (fun _ => ?_) (fun c => absurd rfl c)
      refine a_s rfl rfl ?_
      exact fin
    | true =>
      refine a_if_eq rfl (fun c => absurd c (by decide)) (fun _ => ?_)
      refine a_s rfl rfl ?_
      refine a_goto rfl ?_
      refine a_l1 rfl rfl rfl ?_
      refine a_if_eq rfl (fun c => absurd c (by decide)) (fun _ => ?_)
      refine a_l2 rfl rfl rfl ?_
      refine a_goto rfl ?_
      exact fin
  have good : ∀ {p' : Nat} {x y v : Int32} {J : Nat → Nat → Int32}, ¬ prt T e b = -1 → Cf T e n0 (nx T e b) o I J p' → x = stF (prt T e b) → y = snF (prt T e b) → ¬ v < 0 → AW S m_X12_readPart 18 (QF T e n0 (prtP T e b o) I L w1 w2 t) nX 0 0 61 [some (.ref 420), none, some (.int v)] [.int y, .int x, .ref 420] (hp J L w1 w2 t) := by
    intro p' x y v J hp1 h2 hx hy hv
    rw [show prtP T e b o = (true, nx T e b, prt T e b :: o) from if_neg hp1]
    have n1 := nx_lt (T := T) (prt_lt hp1)
    have n2 := Cf.le h2
    refine a_eV0 rfl lX12_180 mo_X12_emits (r_X12_emits (Cf.st h2) (by omega)) rfl rfl rfl ⟨12, _, rfl, rfl, rfl⟩ rfl ?_
    refine a_l2 rfl rfl rfl ?_
    refine a_if_lt rfl (fun c => absurd c hv) (fun _ => ?_)
    refine a_s rfl rfl ?_
    refine a_goto rfl ?_
    exact a_zret rfl rfl rfl (QF.yes (Cf.em h2 hx hy))
  refine a_l0 rfl rfl rfl ?_
  refine a_gV rfl lX12_106 mo_X12_letters (h_letters (Cf.pp h)) rfl rfl rfl ⟨12, _, rfl, rfl, rfl⟩ rfl (fun v' h' hv => ?_)
  obtain ⟨rfl, J1, rfl, h1⟩ := hv
  rw [hT, Cf.nb h] at h1
  have eT1 : J1 426 = T := (Rd.T h1).trans hT
  refine a_l0 rfl rfl rfl ?_
  refine a_geti rfl gfX12_81_12 rfl ?_
  refine a_top (y := nI (rn T e 1 b)) (Pp.pu (Rd.pp h1)) ?_
  refine a_l0 rfl rfl rfl ?_
  refine a_geti rfl gfX12_91_12 rfl ?_
  refine a_top (y := nI b) (Rd.be h1) ?_
  have hr1 := rn_le (T := T) (k := 1) hbe
  refine a_ic_ne rfl (fun c => ?_) (fun c => ?_)
  · have k1 : kd T e b = 1 := by
      have hne : ¬ rn T e 1 b = b := fun z => c (congrArg nI z)
      cases ck : isK T e 1 b with
      | true => exact (kd_lt (isK_lt ck)).trans (isK_kc ck)
      | false => exact absurd (rn_f ck) hne
    have hlt := kd_in (T := T) (e := e) (b := b) (by rw [k1]; decide)
    have C1 : Cf T e n0 (nx T e b) o I J1 (rn T e 1 b) := Cf.rd h h1 (by rw [← en_1 k1]; rfl)
    have ep : prt T e b = wPa (wd T e b) := (if_neg (by rw [k1]; decide)).trans (if_pos k1)
    refine a_s rfl rfl ?_
    refine a_s1 rfl rfl rfl rfl rfl rfl ?_
    refine a_l1 rfl rfl rfl ?_
    refine a_if_eq rfl (fun _ => ?_) (fun c => absurd rfl c)
    refine a_l0 rfl rfl rfl ?_
    refine a_eV1 rfl lX12_177 mo_X12_wordOfPart (h_wordOfPart hw (Rd.be h1) (Rd.bp h1) (Rd.pp h1) (by rw [eT1])) rfl rfl rfl ⟨12, _, rfl, rfl, rfl⟩ rfl ?_
    refine a_top (y := wpF (wd T e b)) (by rw [eT1]; exact if_pos k1) ?_
    have hw27 := wd_le (T := T) (e := e) (b := b)
    rcases wp_ok (wd T e b) (by omega) with ⟨z1, z2⟩ | ⟨z1, z2, z3, z4⟩
    · rw [z1]
      exact bad (z := false) (ep.trans z2) C1 (by omega) (Rd.be h1)
    · refine a_s2 rfl rfl rfl rfl rfl rfl ?_
      refine a_l0 rfl rfl rfl ?_
      refine a_l1 rfl rfl rfl ?_
      refine a_if_eq rfl (fun _ => ?_) (fun c => absurd rfl c)
      refine a_l2 rfl rfl rfl ?_
      refine a_l1 rfl rfl rfl ?_
      refine a_if_eq rfl (fun _ => ?_) (fun c => absurd rfl c)
      refine a_s rfl rfl ?_
      exact a_less (good (by rw [ep]; exact z2) C1 (by rw [ep]; exact z3) (by rw [ep]; exact z4) z1) ⟨rfl, rfl, trivial⟩
  · have er : rn T e 1 b = b := nI_inj (by omega) (by omega) c
    rw [er] at h1
    have k1 : kd T e b ≠ 1 := fun z => by
      have := rn_t (kd_isK (by decide) z)
      have h9 := rn_ge (T := T) (e := e) (k := 1) (p := b + 1)
      omega
    refine a_s rfl rfl ?_
    refine a_goto rfl ?_
    refine a_s1 rfl rfl rfl rfl rfl rfl ?_
    refine a_l1 rfl rfl rfl ?_
    refine a_if_eq rfl (fun c => absurd c (by decide)) (fun _ => ?_)
    refine a_l0 rfl rfl rfl ?_
    refine a_s rfl rfl ?_
    refine a_s rfl rfl ?_
    refine a_gV rfl lX12_113 mo_X12_number (h_number (b := b) (x := 0) (y := 999) (Rd.pp h1) (by rw [eT1]; exact hskb) (by decide)) rfl rfl rfl ⟨12, _, rfl, rfl, rfl⟩ rfl (fun v' h' hv => ?_)
    obtain ⟨rfl, J2, rfl, h2⟩ := hv
    rw [eT1] at h2 ⊢
    refine a_goto rfl ?_
    have ep : prt T e b = if kd T e b = 2 then vl T e b else -1 := by
      unfold prt
      by_cases c2 : kd T e b = 2
      · rw [if_pos c2, if_pos c2]
      · rw [if_neg c2, if_neg c2, if_neg k1]
    have C1 := Cf.rd h h1 hskb
    by_cases cv : prt T e b = -1
    · have en1 : nm T e b 0 999 = -1 := if_neg fun z => by
        rw [ep, if_pos z.1] at cv
        rw [cv] at z
        exact absurd z.2.1 (by decide)
      rw [en1]
      exact bad (z := true) cv (Cf.rd (b' := rn T e 4 (rn T e 2 b)) C1 h2 rfl) (by omega) (Rd.be h2)
    · have k2 : kd T e b = 2 := by
        by_cases c2 : kd T e b = 2
        · exact c2
        · rw [ep, if_neg c2] at cv
          exact absurd rfl cv
      rw [if_pos k2] at ep
      obtain ⟨m, hm, em⟩ := nu_rng k2 (by rw [← ep]; exact cv)
      have en1 : nm T e b 0 999 = nI m := by
        rw [← em]
        refine if_pos ⟨k2, ?_, ?_⟩
        · rw [em]
          exact nI_0le (by omega)
        · rw [em]
          exact nI_leu (j := 999) (by omega) (by decide)
      rw [en1]
      obtain ⟨s9, sn⟩ := nI_st m hm
      have C2 : Cf T e n0 (nx T e b) o I J2 (rn T e 2 b) := Cf.rd C1 h2 (by rw [← en_2 k2]; rfl)
      refine a_s2 rfl rfl rfl rfl rfl rfl ?_
      refine a_l0 rfl rfl rfl ?_
      refine a_l1 rfl rfl rfl ?_
      refine a_if_eq rfl (fun c => absurd c (by decide)) (fun _ => ?_)
      refine a_s rfl rfl ?_
      refine a_goto rfl ?_
      refine a_l1 rfl rfl rfl ?_
      refine a_if_eq rfl (fun c => absurd c (by decide)) (fun _ => ?_)
      refine a_l2 rfl rfl rfl ?_
      refine a_goto rfl ?_
      exact a_less (good cv C2 (by rw [ep, em]; exact s9) (by rw [ep, em]; exact sn) (nI_pos (by omega))) ⟨rfl, rfl, trivial⟩
theorem h_readSum (hw : WdS S) (hbt : BtT T) (hT : I 426 = T) (h : Cf T e n0 b o I I p) (hB : o.length < b) : Sp S m_X12_readSum 19 0 0 [.ref 420] (hp I L w1 w2 t) (QF T e n0 (sumP T e b o) I L w1 w2 t) nX := by
  have he4 := Cf.e4 h
  refine Sp_of ok_X12_readSum rfl rfl ?_
  show AW S m_X12_readSum 19 _ _ 0 0 0 [some (.ref 420)] [] (hp I L w1 w2 t)
  refine a_l0 rfl rfl rfl ?_
  refine a_gV rfl lX12_184 mo_X12_readPart (h_readPart hw hT h hB) rfl rfl rfl ⟨12, _, rfl, rfl, rfl⟩ rfl (fun v' h' hv => ?_)
  obtain ⟨rfl, J1, p1, rfl, hz1, hf1⟩ := hv
  by_cases c : prt T e b = -1
  · rw [show prtP T e b o = (false, b, []) from if_pos c] at hf1 ⊢
    rw [show sumP T e b o = (false, b, []) from if_pos c]
    refine a_if_ne rfl (fun z => absurd rfl z) (fun _ => ?_)
    refine a_s rfl rfl ?_
    exact a_zret rfl rfl rfl (QF.no (hf1 rfl).1 (hf1 rfl).2)
  rw [show prtP T e b o = (true, nx T e b, prt T e b :: o) from if_neg c] at hz1 ⊢
  have es0 : sumP T e b o = smL T e (nx T e b) (prt T e b :: o) := if_neg c
  have n1 := nx_lt (T := T) (prt_lt c)
  refine a_if_ne rfl (fun _ => ?_) (fun z => absurd (show (1 : Int32) = 0 from z) (by decide))
  refine a_inv (n := e - nx T e b) (fun m ls h => ls = [some (.ref 420)] ∧ ∃ J p' b' o', h = hp J L w1 w2 t ∧ Cf T e n0 b' o' I J p' ∧ o'.length < b' ∧ smL T e b' o' = sumP T e b o ∧ m = e - b') ⟨rfl, J1, p1, _, _, rfl, hz1 rfl, by show o.length + 1 < nx T e b; omega, es0.symm, rfl⟩ ?_
  rintro m _ _ ⟨rfl, J, p', b', o', rfl, C, hB', es, hm⟩ ih
  have eT := Cf.tt C hT
  refine a_l0 rfl rfl rfl ?_
  refine a_s rfl rfl ?_
  refine a_gV rfl lX12_187 mo_X12_sign (h_sign (b := b') (c := 43) (by rw [eT]; exact hbt) (by decide) (Cf.pp C) (by rw [eT]; exact Cf.nb C)) rfl rfl rfl ⟨12, _, rfl, rfl, rfl⟩ rfl (fun v' h' hv => ?_)
  obtain ⟨rfl, J2, rfl, h2⟩ := hv
  rw [eT] at h2 ⊢
  cases cs : sg T e b' (nI 43) with
  | false =>
    have cs : sg T e b' 43 = false := cs
    refine a_if_eq rfl (fun _ => ?_) (fun z => absurd rfl z)
    rw [if_neg (by rw [show sg T e b' (nI 43) = false from cs]; decide)] at h2
    refine a_s rfl rfl ?_
    rw [← es, smL_f cs]
    exact a_zret rfl rfl rfl (QF.yes (Cf.rd C h2 (Cf.sk C)))
  | true =>
    have cs : sg T e b' 43 = true := cs
    refine a_if_eq rfl (fun z => absurd z (by decide)) (fun _ => ?_)
    rw [if_pos (show sg T e b' (nI 43) = true from cs)] at h2
    have n2 := nx_lt (T := T) (sg_lt cs)
    have C2 : Cf T e n0 (nx T e b') o' I J2 (en T e b') := Cf.rd C h2 rfl
    have n2e := Cf.le C2
    refine a_l0 rfl rfl rfl ?_
    refine a_gV rfl lX12_184 mo_X12_readPart (h_readPart hw (Cf.tt C2 hT) (Cf.rf C2) (by omega)) rfl rfl rfl ⟨12, _, rfl, rfl, rfl⟩ rfl (fun v' h' hv => ?_)
    obtain ⟨rfl, J3, p3, rfl, hz3, hf3⟩ := hv
    by_cases cp : prt T e (nx T e b') = -1
    · rw [show prtP T e (nx T e b') o' = (false, nx T e b', []) from if_pos cp] at hf3 ⊢
      refine a_if_ne rfl (fun z => absurd rfl z) (fun _ => ?_)
      refine a_s rfl rfl ?_
      rw [← es, smL_n cs cp]
      exact a_zret rfl rfl rfl (Cf.no C2 (hf3 rfl).1 (hf3 rfl).2)
    · rw [show prtP T e (nx T e b') o' = (true, nx T e (nx T e b'), prt T e (nx T e b') :: o') from if_neg cp] at hz3 ⊢
      refine a_if_ne rfl (fun _ => ?_) (fun z => absurd (show (1 : Int32) = 0 from z) (by decide))
      rw [smL_t cs cp] at es
      have n3 := nx_lt (T := T) (prt_lt cp)
      have C3 := Cf.cc C2 (hz3 rfl)
      have n3e : nx T e (nx T e b') ≤ e := Cf.le C3
      refine a_l0 rfl rfl rfl ?_
      refine a_s rfl rfl ?_
      refine a_s rfl rfl ?_
      refine a_eV0 rfl lX12_180 mo_X12_emits (r_X12_emits (Cf.st C3) (by show o'.length + 1 ≤ 399; omega)) rfl rfl rfl ⟨12, _, rfl, rfl, rfl⟩ rfl ?_
      refine a_goto rfl ?_
      exact ih (e - nx T e (nx T e b')) _ _ (by omega) ⟨rfl, _, p3, _, _, rfl, Cf.em (z := 2000) C3 (by decide) (by decide), by show o'.length + 1 + 1 < nx T e (nx T e b'); omega, es, rfl⟩
theorem h_readTag (hw : WdS S) (hT : I 426 = T) (h : Cf T e n0 b o I I p) (hB : o.length < b) : Sp S m_X12_readTag 17 0 0 [.ref 420] (hp I L w1 w2 t) (fun v h' => ∃ z x J p', v = some (.int (bI z)) ∧ h' = hp J L w1 w2 t ∧ (z = true → ((isWd T e b 22 = true ∧ x = 1007) ∨ (isWd T e b 22 = false ∧ isWd T e b 23 = true ∧ x = 1008)) ∧ Cf T e n0 (nx T e b) (x :: o) I J p') ∧ (z = false → (isWd T e b 22 = false ∧ isWd T e b 23 = false) ∧ Cf T e n0 b o I J p')) nX := by
  have hbe := Cf.le h
  have he4 := Cf.e4 h
  refine Sp_of ok_X12_readTag rfl rfl ?_
  show AW S m_X12_readTag 17 _ _ 0 0 0 [some (.ref 420), none] [] (hp I L w1 w2 t)
  refine a_l0 rfl rfl rfl ?_
  refine a_gV rfl lX12_106 mo_X12_letters (h_letters (Cf.pp h)) rfl rfl rfl ⟨12, _, rfl, rfl, rfl⟩ rfl (fun v' h' hv => ?_)
  obtain ⟨rfl, J1, rfl, h1⟩ := hv
  rw [hT, Cf.nb h] at h1
  have eT1 : J1 426 = T := (Rd.T h1).trans hT
  have good : ∀ (k : Nat) (x : Int32), nI k = stF x → 0 = snF x → k < 100 → kd T e b = 1 → ((isWd T e b 22 = true ∧ x = 1007) ∨ (isWd T e b 22 = false ∧ isWd T e b 23 = true ∧ x = 1008)) → AW S m_X12_readTag 17 (fun v h' => ∃ z x J p', v = some (.int (bI z)) ∧ h' = hp J L w1 w2 t ∧ (z = true → ((isWd T e b 22 = true ∧ x = 1007) ∨ (isWd T e b 22 = false ∧ isWd T e b 23 = true ∧ x = 1008)) ∧ Cf T e n0 (nx T e b) (x :: o) I J p') ∧ (z = false → (isWd T e b 22 = false ∧ isWd T e b 23 = false) ∧ Cf T e n0 b o I J p')) nX 0 0 33 [some (.ref 420), none] [.int (nI k)] (hp J1 L w1 w2 t) := by
    intro k x hk1 hk2 hk k1 hx
    have C1 : Cf T e n0 (nx T e b) o I J1 (rn T e 1 b) := Cf.rd h h1 (by rw [← en_1 k1]; rfl)
    refine a_s1 rfl rfl rfl rfl rfl rfl ?_
    refine a_l1 rfl rfl rfl ?_
    refine a_if_lt rfl (fun c => absurd c (nI_pos (by omega))) (fun _ => ?_)
    refine a_l0 rfl rfl rfl ?_
    refine a_l1 rfl rfl rfl ?_
    refine a_s rfl rfl ?_
    refine a_eV0 rfl lX12_180 mo_X12_emits (r_X12_emits (Cf.st C1) (by omega)) rfl rfl rfl ⟨12, _, rfl, rfl, rfl⟩ rfl ?_
    refine a_goto rfl ?_
    refine a_l1 rfl rfl rfl ?_
    refine a_if_lt rfl (fun c => absurd c (nI_pos (by omega))) (fun _ => ?_)
    refine a_s rfl rfl ?_
    refine a_goto rfl ?_
    exact a_zret rfl rfl rfl ⟨true, x, _, _, rfl, rfl, fun _ => ⟨hx, Cf.em C1 hk1 hk2⟩, fun z => by cases z⟩
  refine a_l0 rfl rfl rfl ?_
  refine a_ldcs (q := 130 + 22) rfl (hw.ld (i := 22) (by decide)) ?_
  refine a_eV1 rfl lX12_109 mo_X12_isWord (h_isWord (k := 22) hw (by decide) (Rd.be h1) (Rd.bp h1) (Rd.pp h1)) rfl rfl rfl ⟨12, _, rfl, rfl, rfl⟩ rfl ?_
  obtain ⟨z22, c22⟩ : ∃ z, isWd T e b 22 = z := ⟨_, rfl⟩
  refine a_top (y := bI z22) (by rw [eT1]; exact congrArg bI ((isW_wd (by decide)).trans c22)) ?_
  cases z22 with
  | true =>
    refine a_if_eq rfl (fun z => absurd z (by decide)) (fun _ => ?_)
    refine a_s rfl rfl ?_
    refine a_goto rfl ?_
    exact good 7 1007 (by decide) (by decide) (by decide) (of_decide_eq_true c22).1 (Or.inl ⟨c22, rfl⟩)
  | false =>
  refine a_if_eq rfl (fun _ => ?_) (fun z => absurd rfl z)
  refine a_l0 rfl rfl rfl ?_
  refine a_ldcs (q := 130 + 23) rfl (hw.ld (i := 23) (by decide)) ?_
  refine a_eV1 rfl lX12_109 mo_X12_isWord (h_isWord (k := 23) hw (by decide) (Rd.be h1) (Rd.bp h1) (Rd.pp h1)) rfl rfl rfl ⟨12, _, rfl, rfl, rfl⟩ rfl ?_
  obtain ⟨z23, c23⟩ : ∃ z, isWd T e b 23 = z := ⟨_, rfl⟩
  refine a_top (y := bI z23) (by rw [eT1]; exact congrArg bI ((isW_wd (by decide)).trans c23)) ?_
  cases z23 with
  | true =>
    refine a_if_eq rfl (fun z => absurd z (by decide)) (fun _ => ?_)
    refine a_s rfl rfl ?_
    refine a_goto rfl ?_
    exact good 8 1008 (by decide) (by decide) (by decide) (of_decide_eq_true c23).1 (Or.inr ⟨c22, c23, rfl⟩)
  | false =>
  refine a_if_eq rfl (fun _ => ?_) (fun z => absurd rfl z)
  refine a_s rfl rfl ?_
  refine a_s1 rfl rfl rfl rfl rfl rfl ?_
  refine a_l1 rfl rfl rfl ?_
  refine a_if_lt rfl (fun _ => ?_) (fun c => absurd (by decide) c)
  refine a_l0 rfl rfl rfl ?_
  refine a_l0 rfl rfl rfl ?_
  refine a_geti rfl gfX12_91_12 rfl ?_
  refine a_top (y := nI b) (Rd.be h1) ?_
  refine a_puti rfl pfX12_81_12 rfl ?_
  refine a_l1 rfl rfl rfl ?_
  refine a_if_lt rfl (fun _ => ?_) (fun c => absurd (by decide) c)
  refine a_s rfl rfl ?_
  exact a_zret rfl rfl rfl ⟨false, 0, _, b, rfl, rfl, (fun z => by cases z), fun _ => ⟨⟨c22, c23⟩, Cf.rd h (Rd.rs h1) (Cf.sk h)⟩⟩
theorem seqP_of {item : Nat → List Int32 → PR} {k : Nat} {op : Int32} {z : Bool} {b1 : Nat} {o1 : List Int32} (hr : item b o = (z, b1, o1)) : seqP T e item k op b o = if z = true then loopP T e item k op b1 o1 else (false, b1, []) := by
  unfold seqP
  rw [hr]
theorem atomR_p {D : Nat} {z : Bool} {b1 : Nat} {o1 : List Int32} (h : sg T e b 40 = true) (hr : cndP T e (atomR T e D) (nx T e b) o = (z, b1, o1)) : atomR T e (D + 1) b o = if z = true then (if sg T e b1 41 = true then (true, nx T e b1, o1) else (false, b1, [])) else (false, b1, []) := by
  unfold atomR
  rw [if_pos h, hr]
theorem atomR_n {D : Nat} {z : Bool} {b1 : Nat} {o1 : List Int32} (h : sg T e b 40 = false) (h2 : isWd T e b 21 = true) (hr : atomR T e D (nx T e b) o = (z, b1, o1)) : atomR T e (D + 1) b o = if z = true then (true, b1, 2003 :: o1) else (false, b1, []) := by
  rw [show atomR T e (D + 1) b o = (if (atomR T e D (nx T e b) o).1 = true then (true, (atomR T e D (nx T e b) o).2.1, 2003 :: (atomR T e D (nx T e b) o).2.2) else (false, (atomR T e D (nx T e b) o).2.1, [])) from (if_neg (by rw [h]; decide)).trans (if_pos h2), hr]
theorem atomR_b {D : Nat} (h : sg T e b 40 = false) (h2 : isWd T e b 21 = false) : atomR T e D b o = baseP T e b o := by
  cases D with
  | zero =>
    unfold atomR
    rw [if_neg (by unfold opn; rw [h, h2]; decide)]
  | succ D =>
    unfold atomR
    rw [if_neg (by rw [h]; decide), if_neg (by rw [h2]; decide)]
theorem atomR_0 (h : opn T e b = true) : atomR T e 0 b o = (false, b, []) := by
  unfold atomR
  rw [if_pos h]

theorem h_readAtom_6 (hw : WdS S) (hbt : BtT T) (hT : I 426 = T) (hd : I 420 13 = nI 6) (h : Cf T e n0 b o I I p) (hB : o.length < b) : Sp S m_X12_readAtom 20 0 0 [.ref 420] (hp I L w1 w2 t) (QF T e n0 (atomR T e 0 b o) I L w1 w2 t) nX := by
  have he4 := Cf.e4 h
  have hbe := Cf.le h
  refine Sp_of ok_X12_readAtom rfl rfl ?_
  show AW S m_X12_readAtom 20 _ _ 0 0 0 [some (.ref 420), none] [] (hp I L w1 w2 t)
  refine a_l0 rfl rfl rfl ?_
  refine a_s rfl rfl ?_
  refine a_gV rfl lX12_187 mo_X12_sign (h_sign (b := b) (c := 40) (by rw [hT]; exact hbt) (by decide) (Cf.pp h) (by rw [hT]; exact Cf.nb h)) rfl rfl rfl ⟨12, _, rfl, rfl, rfl⟩ rfl (fun v' h' hv => ?_)
  obtain ⟨rfl, J1, rfl, h1⟩ := hv
  rw [hT] at h1 ⊢
  cases c40 : sg T e b (nI 40) with
  | true =>
    have c40 : sg T e b 40 = true := c40
    refine a_if_eq rfl (fun z => absurd z (by decide)) (fun _ => ?_)
    rw [if_pos (show sg T e b (nI 40) = true from c40)] at h1
    have n1 := nx_lt (T := T) (sg_lt c40)
    have C1 : Cf T e n0 (nx T e b) o I J1 (en T e b) := Cf.rd h h1 rfl
    refine a_l0 rfl rfl rfl ?_
    refine a_geti rfl gfX12_194_12 rfl ?_
    refine a_top (y := nI 6) (Cf.d C1 hd) ?_
    refine a_s rfl rfl ?_
    refine a_ic_ne rfl (fun c => absurd rfl c) (fun _ => ?_)
    refine a_s rfl rfl ?_
    rw [atomR_0 (by unfold opn; rw [c40]; exact Bool.or_true _)]
    exact a_zret rfl rfl rfl (QF.no C1.1 (Rd.be h1))
  | false =>
  have c40 : sg T e b 40 = false := c40
  refine a_if_eq rfl (fun _ => ?_) (fun z => absurd rfl z)
  rw [if_neg (by rw [show sg T e b (nI 40) = false from c40]; decide)] at h1
  have C0 : Cf T e n0 b o I J1 b := Cf.rd h h1 (Cf.sk h)
  have eT0 := Cf.tt C0 hT
  refine a_l0 rfl rfl rfl ?_
  refine a_ldcs (q := 130 + 21) rfl (hw.ld (i := 21) (by decide)) ?_
  refine a_gV rfl lX12_128 mo_X12_passes (h_passes (b := b) (k := 21) hw (by decide) (Cf.pp C0) (by rw [eT0]; exact Cf.nb C0)) rfl rfl rfl ⟨12, _, rfl, rfl, rfl⟩ rfl (fun v' h' hv => ?_)
  obtain ⟨rfl, J2, rfl, h2⟩ := hv
  rw [eT0] at h2 ⊢
  cases c21 : isWd T e b 21 with
  | true =>
    refine a_if_eq rfl (fun z => absurd z (by decide)) (fun _ => ?_)
    rw [if_pos c21] at h2
    have n1 := nx_lt (T := T) (isWd_lt c21)
    have C2 : Cf T e n0 (nx T e b) o I J2 (en T e b) := Cf.rd C0 h2 rfl
    refine a_l0 rfl rfl rfl ?_
    refine a_geti rfl gfX12_194_12 rfl ?_
    refine a_top (y := nI 6) (Cf.d C2 hd) ?_
    refine a_s rfl rfl ?_
    refine a_ic_ne rfl (fun c => absurd rfl c) (fun _ => ?_)
    refine a_s rfl rfl ?_
    rw [atomR_0 (by unfold opn; rw [c21]; exact Bool.true_or _)]
    exact a_zret rfl rfl rfl (QF.no C2.1 (Rd.be h2))
  | false =>
  refine a_if_eq rfl (fun _ => ?_) (fun z => absurd rfl z)
  rw [if_neg (by rw [c21]; decide)] at h2
  have C2 : Cf T e n0 b o I J2 b := Cf.rd C0 h2 (Cf.sk C0)
  rw [atomR_b c40 c21]
  refine a_l0 rfl rfl rfl ?_
  refine a_gV rfl lX12_205 mo_X12_readTag (h_readTag hw (Cf.tt C2 hT) (Cf.rf C2) hB) rfl rfl rfl ⟨12, _, rfl, rfl, rfl⟩ rfl (fun v' h' hv => ?_)
  obtain ⟨z3, x3, J3, p3, rfl, rfl, ht3, hf3⟩ := hv
  cases z3 with
  | true =>
    refine a_if_eq rfl (fun z => absurd z (by decide)) (fun _ => ?_)
    refine a_s rfl rfl ?_
    obtain ⟨hx, D3⟩ := ht3 rfl
    rcases hx with ⟨c22, rfl⟩ | ⟨c22, c23, rfl⟩
    · rw [show baseP T e b o = (true, nx T e b, 1007 :: o) from if_pos c22]
      exact a_zret rfl rfl rfl (QF.yes (Cf.cc C2 D3))
    · rw [show baseP T e b o = (true, nx T e b, 1008 :: o) from (if_neg (by rw [c22]; decide)).trans (if_pos c23)]
      exact a_zret rfl rfl rfl (QF.yes (Cf.cc C2 D3))
  | false =>
  refine a_if_eq rfl (fun _ => ?_) (fun z => absurd rfl z)
  obtain ⟨⟨c22, c23⟩, D3⟩ := hf3 rfl
  have C3 := Cf.cc C2 D3
  have g4 := sumP_gd (T := T) (o := o) hbe
  refine a_l0 rfl rfl rfl ?_
  refine a_gV rfl lX12_208 mo_X12_readSum (h_readSum hw hbt (Cf.tt C3 hT) (Cf.rf C3) hB) rfl rfl rfl ⟨12, _, rfl, rfl, rfl⟩ rfl (fun v' h' hv => ?_)
  obtain ⟨rfl, J4, p4, rfl, hz4, hf4⟩ := hv
  rcases hr4 : sumP T e b o with ⟨z4, b4, o4⟩
  rw [baseP_s c22 c23 hr4]
  rw [hr4] at hz4 hf4 g4
  cases z4 with
  | false =>
    refine a_if_ne rfl (fun z => absurd rfl z) (fun _ => ?_)
    refine a_s rfl rfl ?_
    rw [if_neg (by decide)]
    exact a_zret rfl rfl rfl (Cf.no C3 (hf4 rfl).1 (hf4 rfl).2)
  | true =>
  refine a_if_ne rfl (fun _ => ?_) (fun z => absurd (show (1 : Int32) = 0 from z) (by decide))
  rw [if_pos rfl]
  have C4 : Cf T e n0 b4 o4 I J4 p4 := Cf.cc C3 (hz4 rfl)
  obtain ⟨-, -, g4⟩ := g4
  have g4 : b < b4 ∧ o4.length + b ≤ o.length + b4 := g4 rfl
  have key : ∀ {z5 : Bool} {x : Int32} {p' : Nat} {J : Nat → Nat → Int32}, b4 < nx T e b4 → x = (if z5 = true then 2001 else 2002) → Cf T e n0 (nx T e b4) o4 I J p' → AW S m_X12_readAtom 20 (QF T e n0 (cmpP T e x (nx T e b4) o4) I L w1 w2 t) nX 0 0 152 [some (.ref 420), some (.int (bI z5))] [] (hp J L w1 w2 t) := by
    intro z5 x p' J n4 hx C
    have g6 := sumP_gd (T := T) (o := o4) (Cf.le C)
    refine a_l0 rfl rfl rfl ?_
    refine a_gV rfl lX12_208 mo_X12_readSum (h_readSum hw hbt (Cf.tt C hT) (Cf.rf C) (by omega)) rfl rfl rfl ⟨12, _, rfl, rfl, rfl⟩ rfl (fun v' h' hv => ?_)
    obtain ⟨rfl, J6, p6, rfl, hz6, hf6⟩ := hv
    rcases hr6 : sumP T e (nx T e b4) o4 with ⟨z6, b6, o6⟩
    rw [hr6] at hz6 hf6 g6
    cases z6 with
    | false =>
      refine a_if_ne rfl (fun z => absurd rfl z) (fun _ => ?_)
      refine a_s rfl rfl ?_
      rw [cmpP_f hr6]
      exact a_zret rfl rfl rfl (Cf.no C (hf6 rfl).1 (hf6 rfl).2)
    | true =>
      refine a_if_ne rfl (fun _ => ?_) (fun z => absurd (show (1 : Int32) = 0 from z) (by decide))
      rw [cmpP_t hr6]
      have C6 : Cf T e n0 b6 o6 I J6 p6 := Cf.cc C (hz6 rfl)
      have c6e := Cf.le C6
      obtain ⟨-, -, g6⟩ := g6
      have g6 : nx T e b4 < b6 ∧ o6.length + nx T e b4 ≤ o4.length + b6 := g6 rfl
      refine a_l0 rfl rfl rfl ?_
      refine a_l1 rfl rfl rfl ?_
      cases z5 with
      | false =>
        rw [if_neg (by decide)] at hx
        subst hx
        refine a_if_eq rfl (fun _ => ?_) (fun c => absurd rfl c)
        refine a_s rfl rfl ?_
        refine a_s rfl rfl ?_
        refine a_eV0 rfl lX12_180 mo_X12_emits (r_X12_emits (Cf.st C6) (by omega)) rfl rfl rfl ⟨12, _, rfl, rfl, rfl⟩ rfl ?_
        refine a_s rfl rfl ?_
        exact a_zret rfl rfl rfl (QF.yes (Cf.em (z := 2002) C6 (by decide) (by decide)))
      | true =>
        rw [if_pos rfl] at hx
        subst hx
        refine a_if_eq rfl (fun c => absurd c (by decide)) (fun _ => ?_)
        refine a_s rfl rfl ?_
        refine a_goto rfl ?_
        refine a_s rfl rfl ?_
        refine a_eV0 rfl lX12_180 mo_X12_emits (r_X12_emits (Cf.st C6) (by omega)) rfl rfl rfl ⟨12, _, rfl, rfl, rfl⟩ rfl ?_
        refine a_s rfl rfl ?_
        exact a_zret rfl rfl rfl (QF.yes (Cf.em (z := 2001) C6 (by decide) (by decide)))
  have eT4 := Cf.tt C4 hT
  refine a_l0 rfl rfl rfl ?_
  refine a_s rfl rfl ?_
  refine a_gV rfl lX12_187 mo_X12_sign (h_sign (b := b4) (c := 60) (by rw [eT4]; exact hbt) (by decide) (Cf.pp C4) (by rw [eT4]; exact Cf.nb C4)) rfl rfl rfl ⟨12, _, rfl, rfl, rfl⟩ rfl (fun v' h' hv => ?_)
  obtain ⟨rfl, J5, rfl, h5⟩ := hv
  rw [eT4] at h5 ⊢
  refine a_s1 rfl rfl rfl rfl rfl rfl ?_
  refine a_l1 rfl rfl rfl ?_
  cases c60 : sg T e b4 (nI 60) with
  | true =>
    have c60 : sg T e b4 60 = true := c60
    refine a_if_ne rfl (fun _ => ?_) (fun z => absurd (show (1 : Int32) = 0 from z) (by decide))
    rw [if_pos (show sg T e b4 (nI 60) = true from c60)] at h5
    rw [if_pos c60]
    exact key (z5 := true) (nx_lt (sg_lt c60)) rfl (Cf.rd C4 h5 rfl)
  | false =>
  have c60 : sg T e b4 60 = false := c60
  refine a_if_ne rfl (fun z => absurd rfl z) (fun _ => ?_)
  rw [if_neg (by rw [show sg T e b4 (nI 60) = false from c60]; decide)] at h5
  rw [if_neg (by rw [c60]; decide)]
  have C5 : Cf T e n0 b4 o4 I J5 b4 := Cf.rd C4 h5 (Cf.sk C4)
  have eT5 := Cf.tt C5 hT
  refine a_l0 rfl rfl rfl ?_
  refine a_s rfl rfl ?_
  refine a_gV rfl lX12_187 mo_X12_sign (h_sign (b := b4) (c := 62) (by rw [eT5]; exact hbt) (by decide) (Cf.pp C5) (by rw [eT5]; exact Cf.nb C5)) rfl rfl rfl ⟨12, _, rfl, rfl, rfl⟩ rfl (fun v' h' hv => ?_)
  obtain ⟨rfl, J7, rfl, h7⟩ := hv
  rw [eT5] at h7 ⊢
  cases c62 : sg T e b4 (nI 62) with
  | false =>
    have c62 : sg T e b4 62 = false := c62
    refine a_if_eq rfl (fun _ => ?_) (fun z => absurd rfl z)
    rw [if_neg (by rw [show sg T e b4 (nI 62) = false from c62]; decide)] at h7
    rw [if_neg (by rw [c62]; decide)]
    refine a_s rfl rfl ?_
    exact a_zret rfl rfl rfl (QF.no (Fm.tr C5.1 (Fm.mo (Rd.fm h7) sR_sY)) (Rd.be h7))
  | true =>
    have c62 : sg T e b4 62 = true := c62
    refine a_if_eq rfl (fun z => absurd z (by decide)) (fun _ => ?_)
    rw [if_pos (show sg T e b4 (nI 62) = true from c62)] at h7
    rw [if_pos c62]
    exact key (z5 := false) (nx_lt (sg_lt c62)) rfl (Cf.rd C5 h7 rfl)
theorem h_readAllOf_6 (hw : WdS S) (hbt : BtT T) (hT : I 426 = T) (hd : I 420 13 = nI 6) (h : Cf T e n0 b o I I p) (hB : o.length < b) : Sp S m_X12_readAllOf 21 0 0 [.ref 420] (hp I L w1 w2 t) (QF T e n0 (seqP T e (atomR T e 0) 20 2004 b o) I L w1 w2 t) nX := by
  have he4 := Cf.e4 h
  have g0 := atomR_gdo (T := T) (D := 0) (o := o) (Cf.le h)
  refine Sp_of ok_X12_readAllOf rfl rfl ?_
  show AW S m_X12_readAllOf 21 _ _ 0 0 0 [some (.ref 420)] [] (hp I L w1 w2 t)
  refine a_l0 rfl rfl rfl ?_
  refine a_gV rfl lX12_202 mo_X12_readAtom (h_readAtom_6 hw hbt hT hd h hB) rfl rfl rfl ⟨12, _, rfl, rfl, rfl⟩ rfl (fun v' h' hv => ?_)
  obtain ⟨rfl, J1, p1, rfl, hz1, hf1⟩ := hv
  rcases hr : (atomR T e 0) b o with ⟨z, b1, o1⟩
  rw [seqP_of hr]
  rw [hr] at hz1 hf1 g0
  cases z with
  | false =>
    refine a_if_ne rfl (fun z => absurd rfl z) (fun _ => ?_)
    refine a_s rfl rfl ?_
    rw [if_neg (by decide)]
    exact a_zret rfl rfl rfl (QF.no (hf1 rfl).1 (hf1 rfl).2)
  | true =>
  refine a_if_ne rfl (fun _ => ?_) (fun z => absurd (show (1 : Int32) = 0 from z) (by decide))
  rw [if_pos rfl]
  obtain ⟨-, -, g3⟩ := g0
  have g3 : b < b1 ∧ o1.length + b ≤ o.length + b1 := g3 rfl
  generalize hR : loopP T e (atomR T e 0) 20 2004 b1 o1 = R
  refine a_inv (n := e - b1) (fun m ls h => ls = [some (.ref 420)] ∧ ∃ J p' b' o', h = hp J L w1 w2 t ∧ Cf T e n0 b' o' I J p' ∧ o'.length < b' ∧ loopP T e (atomR T e 0) 20 2004 b' o' = R ∧ m = e - b') ⟨rfl, J1, p1, _, _, rfl, hz1 rfl, by show o1.length < b1; omega, hR, rfl⟩ ?_
  rintro m _ _ ⟨rfl, J, p', b', o', rfl, C, hB', es, hm⟩ ih
  have eT := Cf.tt C hT
  refine a_l0 rfl rfl rfl ?_
  refine a_ldcs (q := 130 + 20) rfl (hw.ld (i := 20) (by decide)) ?_
  refine a_gV rfl lX12_128 mo_X12_passes (h_passes (b := b') (k := 20) hw (by decide) (Cf.pp C) (by rw [eT]; exact Cf.nb C)) rfl rfl rfl ⟨12, _, rfl, rfl, rfl⟩ rfl (fun v' h' hv => ?_)
  obtain ⟨rfl, J2, rfl, h2⟩ := hv
  rw [eT] at h2 ⊢
  cases cw : isWd T e b' 20 with
  | false =>
    refine a_if_eq rfl (fun _ => ?_) (fun z => absurd rfl z)
    rw [if_neg (by rw [cw]; decide)] at h2
    refine a_s rfl rfl ?_
    rw [← es, loopP_f cw]
    exact a_zret rfl rfl rfl (QF.yes (Cf.rd C h2 (Cf.sk C)))
  | true =>
    refine a_if_eq rfl (fun z => absurd z (by decide)) (fun _ => ?_)
    rw [if_pos cw] at h2
    have n2 := nx_lt (T := T) (isWd_lt cw)
    have C2 : Cf T e n0 (nx T e b') o' I J2 (en T e b') := Cf.rd C h2 rfl
    have n2e := Cf.le C2
    have g4 := atomR_gdo (T := T) (D := 0) (o := o') n2e
    refine a_l0 rfl rfl rfl ?_
    refine a_gV rfl lX12_202 mo_X12_readAtom (h_readAtom_6 hw hbt (Cf.tt C2 hT) (Cf.d C2 hd) (Cf.rf C2) (by omega)) rfl rfl rfl ⟨12, _, rfl, rfl, rfl⟩ rfl (fun v' h' hv => ?_)
    obtain ⟨rfl, J3, p3, rfl, hz3, hf3⟩ := hv
    have el := fun g => loopP_t (op := 2004) (o := o') (item := atomR T e 0) cw g
    have en' := loopP_n (op := 2004) (o := o') (item := atomR T e 0) cw
    rcases hr2 : (atomR T e 0) (nx T e b') o' with ⟨z2, b2, o2⟩
    rw [hr2] at hz3 hf3 g4 el en'
    cases z2 with
    | false =>
      refine a_if_ne rfl (fun z => absurd rfl z) (fun _ => ?_)
      refine a_s rfl rfl ?_
      rw [← es, en' Bool.false_ne_true]
      exact a_zret rfl rfl rfl (Cf.no C2 (hf3 rfl).1 (hf3 rfl).2)
    | true =>
      refine a_if_ne rfl (fun _ => ?_) (fun z => absurd (show (1 : Int32) = 0 from z) (by decide))
      have C3 : Cf T e n0 b2 o2 I J3 p3 := Cf.cc C2 (hz3 rfl)
      have c3e := Cf.le C3
      obtain ⟨-, -, g5⟩ := g4
      have g5 : nx T e b' < b2 ∧ o2.length + nx T e b' ≤ o'.length + b2 := g5 rfl
      have es2 : loopP T e (atomR T e 0) 20 2004 b2 (2004 :: o2) = R := (el (by show b' < b2; omega) rfl).symm.trans es
      refine a_l0 rfl rfl rfl ?_
      refine a_s rfl rfl ?_
      refine a_s rfl rfl ?_
      refine a_eV0 rfl lX12_180 mo_X12_emits (r_X12_emits (Cf.st C3) (by omega)) rfl rfl rfl ⟨12, _, rfl, rfl, rfl⟩ rfl ?_
      refine a_goto rfl ?_
      exact ih (e - b2) _ _ (by omega) ⟨rfl, _, p3, b2, _, rfl, Cf.em (z := 2004) C3 (by decide) (by decide), by show o2.length + 1 < b2; omega, es2, rfl⟩
theorem h_readCond_6 (hw : WdS S) (hbt : BtT T) (hT : I 426 = T) (hd : I 420 13 = nI 6) (h : Cf T e n0 b o I I p) (hB : o.length < b) : Sp S m_X12_readCond 22 0 0 [.ref 420] (hp I L w1 w2 t) (QF T e n0 (seqP T e (seqP T e (atomR T e 0) 20 2004) 19 2005 b o) I L w1 w2 t) nX := by
  have he4 := Cf.e4 h
  have g0 := seqA_gd (T := T) (D := 0) (o := o) (Cf.le h)
  refine Sp_of ok_X12_readCond rfl rfl ?_
  show AW S m_X12_readCond 22 _ _ 0 0 0 [some (.ref 420)] [] (hp I L w1 w2 t)
  refine a_l0 rfl rfl rfl ?_
  refine a_gV rfl lX12_213 mo_X12_readAllOf (h_readAllOf_6 hw hbt hT hd h hB) rfl rfl rfl ⟨12, _, rfl, rfl, rfl⟩ rfl (fun v' h' hv => ?_)
  obtain ⟨rfl, J1, p1, rfl, hz1, hf1⟩ := hv
  rcases hr : (seqP T e (atomR T e 0) 20 2004) b o with ⟨z, b1, o1⟩
  rw [seqP_of hr]
  rw [hr] at hz1 hf1 g0
  cases z with
  | false =>
    refine a_if_ne rfl (fun z => absurd rfl z) (fun _ => ?_)
    refine a_s rfl rfl ?_
    rw [if_neg (by decide)]
    exact a_zret rfl rfl rfl (QF.no (hf1 rfl).1 (hf1 rfl).2)
  | true =>
  refine a_if_ne rfl (fun _ => ?_) (fun z => absurd (show (1 : Int32) = 0 from z) (by decide))
  rw [if_pos rfl]
  obtain ⟨-, -, g3⟩ := g0
  have g3 : b < b1 ∧ o1.length + b ≤ o.length + b1 := g3 rfl
  generalize hR : loopP T e (seqP T e (atomR T e 0) 20 2004) 19 2005 b1 o1 = R
  refine a_inv (n := e - b1) (fun m ls h => ls = [some (.ref 420)] ∧ ∃ J p' b' o', h = hp J L w1 w2 t ∧ Cf T e n0 b' o' I J p' ∧ o'.length < b' ∧ loopP T e (seqP T e (atomR T e 0) 20 2004) 19 2005 b' o' = R ∧ m = e - b') ⟨rfl, J1, p1, _, _, rfl, hz1 rfl, by show o1.length < b1; omega, hR, rfl⟩ ?_
  rintro m _ _ ⟨rfl, J, p', b', o', rfl, C, hB', es, hm⟩ ih
  have eT := Cf.tt C hT
  refine a_l0 rfl rfl rfl ?_
  refine a_ldcs (q := 130 + 19) rfl (hw.ld (i := 19) (by decide)) ?_
  refine a_gV rfl lX12_128 mo_X12_passes (h_passes (b := b') (k := 19) hw (by decide) (Cf.pp C) (by rw [eT]; exact Cf.nb C)) rfl rfl rfl ⟨12, _, rfl, rfl, rfl⟩ rfl (fun v' h' hv => ?_)
  obtain ⟨rfl, J2, rfl, h2⟩ := hv
  rw [eT] at h2 ⊢
  cases cw : isWd T e b' 19 with
  | false =>
    refine a_if_eq rfl (fun _ => ?_) (fun z => absurd rfl z)
    rw [if_neg (by rw [cw]; decide)] at h2
    refine a_s rfl rfl ?_
    rw [← es, loopP_f cw]
    exact a_zret rfl rfl rfl (QF.yes (Cf.rd C h2 (Cf.sk C)))
  | true =>
    refine a_if_eq rfl (fun z => absurd z (by decide)) (fun _ => ?_)
    rw [if_pos cw] at h2
    have n2 := nx_lt (T := T) (isWd_lt cw)
    have C2 : Cf T e n0 (nx T e b') o' I J2 (en T e b') := Cf.rd C h2 rfl
    have n2e := Cf.le C2
    have g4 := seqA_gd (T := T) (D := 0) (o := o') n2e
    refine a_l0 rfl rfl rfl ?_
    refine a_gV rfl lX12_213 mo_X12_readAllOf (h_readAllOf_6 hw hbt (Cf.tt C2 hT) (Cf.d C2 hd) (Cf.rf C2) (by omega)) rfl rfl rfl ⟨12, _, rfl, rfl, rfl⟩ rfl (fun v' h' hv => ?_)
    obtain ⟨rfl, J3, p3, rfl, hz3, hf3⟩ := hv
    have el := fun g => loopP_t (op := 2005) (o := o') (item := seqP T e (atomR T e 0) 20 2004) cw g
    have en' := loopP_n (op := 2005) (o := o') (item := seqP T e (atomR T e 0) 20 2004) cw
    rcases hr2 : (seqP T e (atomR T e 0) 20 2004) (nx T e b') o' with ⟨z2, b2, o2⟩
    rw [hr2] at hz3 hf3 g4 el en'
    cases z2 with
    | false =>
      refine a_if_ne rfl (fun z => absurd rfl z) (fun _ => ?_)
      refine a_s rfl rfl ?_
      rw [← es, en' Bool.false_ne_true]
      exact a_zret rfl rfl rfl (Cf.no C2 (hf3 rfl).1 (hf3 rfl).2)
    | true =>
      refine a_if_ne rfl (fun _ => ?_) (fun z => absurd (show (1 : Int32) = 0 from z) (by decide))
      have C3 : Cf T e n0 b2 o2 I J3 p3 := Cf.cc C2 (hz3 rfl)
      have c3e := Cf.le C3
      obtain ⟨-, -, g5⟩ := g4
      have g5 : nx T e b' < b2 ∧ o2.length + nx T e b' ≤ o'.length + b2 := g5 rfl
      have es2 : loopP T e (seqP T e (atomR T e 0) 20 2004) 19 2005 b2 (2005 :: o2) = R := (el (by show b' < b2; omega) rfl).symm.trans es
      refine a_l0 rfl rfl rfl ?_
      refine a_s rfl rfl ?_
      refine a_s rfl rfl ?_
      refine a_eV0 rfl lX12_180 mo_X12_emits (r_X12_emits (Cf.st C3) (by omega)) rfl rfl rfl ⟨12, _, rfl, rfl, rfl⟩ rfl ?_
      refine a_goto rfl ?_
      exact ih (e - b2) _ _ (by omega) ⟨rfl, _, p3, b2, _, rfl, Cf.em (z := 2005) C3 (by decide) (by decide), by show o2.length + 1 < b2; omega, es2, rfl⟩
theorem h_readAtom_5 (hw : WdS S) (hbt : BtT T) (hT : I 426 = T) (hd : I 420 13 = nI 5) (h : Cf T e n0 b o I I p) (hB : o.length < b) : Sp S m_X12_readAtom 23 0 0 [.ref 420] (hp I L w1 w2 t) (QF T e n0 (atomR T e 1 b o) I L w1 w2 t) nX := by
  have he4 := Cf.e4 h
  have hbe := Cf.le h
  refine Sp_of ok_X12_readAtom rfl rfl ?_
  show AW S m_X12_readAtom 23 _ _ 0 0 0 [some (.ref 420), none] [] (hp I L w1 w2 t)
  refine a_l0 rfl rfl rfl ?_
  refine a_s rfl rfl ?_
  refine a_gV rfl lX12_187 mo_X12_sign (h_sign (b := b) (c := 40) (by rw [hT]; exact hbt) (by decide) (Cf.pp h) (by rw [hT]; exact Cf.nb h)) rfl rfl rfl ⟨12, _, rfl, rfl, rfl⟩ rfl (fun v' h' hv => ?_)
  obtain ⟨rfl, J1, rfl, h1⟩ := hv
  rw [hT] at h1 ⊢
  cases c40 : sg T e b (nI 40) with
  | true =>
    have c40 : sg T e b 40 = true := c40
    refine a_if_eq rfl (fun z => absurd z (by decide)) (fun _ => ?_)
    rw [if_pos (show sg T e b (nI 40) = true from c40)] at h1
    have n1 := nx_lt (T := T) (sg_lt c40)
    have C1 : Cf T e n0 (nx T e b) o I J1 (en T e b) := Cf.rd h h1 rfl
    refine a_l0 rfl rfl rfl ?_
    refine a_geti rfl gfX12_194_12 rfl ?_
    refine a_top (y := nI 5) (Cf.d C1 hd) ?_
    refine a_s rfl rfl ?_
    refine a_ic_ne rfl (fun _ => ?_) (fun c => absurd c (by decide))
    refine a_l0 rfl rfl rfl ?_
    refine a_s rfl rfl ?_
    refine a_geti rfl gfX12_194_12 rfl ?_
    refine a_top (y := nI 5) (Cf.d C1 hd) ?_
    refine a_s rfl rfl ?_
    refine a_s rfl rfl ?_
    refine a_top (y := nI 6) (rfl) ?_
    refine a_puti rfl pfX12_194_12 rfl ?_
    refine a_l0 rfl rfl rfl ?_
    have g4 := cndP_gd (T := T) (fun b o h => atomR_gd (T := T) 0 b o h) (o := o) (Cf.le C1)
    refine a_gV rfl lX12_197 mo_X12_readCond (h_readCond_6 hw hbt ((up2_row (by decide)).trans (Cf.tt C1 hT)) up2_at (Cf.up13 C1) (by omega)) rfl rfl rfl ⟨12, _, rfl, rfl, rfl⟩ rfl (fun v' h' hv => ?_)
    obtain ⟨rfl, J9, p9, rfl, hz9, hf9⟩ := hv
    rw [show seqP T e (seqP T e (atomR T e 0) 20 2004) 19 2005 = cndP T e (atomR T e 0) from rfl] at hz9 hf9 ⊢
    rcases hr9 : cndP T e (atomR T e 0) (nx T e b) o with ⟨z9, b9, o9⟩
    rw [hr9] at hz9 hf9 g4
    rw [atomR_p c40 hr9]
    cases z9 with
    | false =>
      refine a_if_ne rfl (fun z => absurd rfl z) (fun _ => ?_)
      refine a_s rfl rfl ?_
      rw [if_neg (by decide)]
      exact a_zret rfl rfl rfl (QF.no (Fm.tr C1.1 (Fm.tr (Fm.up Fm.rf rfl) (hf9 rfl).1)) (hf9 rfl).2)
    | true =>
      refine a_if_ne rfl (fun _ => ?_) (fun z => absurd (show (1 : Int32) = 0 from z) (by decide))
      rw [if_pos rfl]
      have D9 : Cf T e n0 b9 o9 (up2 J1 420 13 (nI 6)) J9 p9 := hz9 rfl
      refine a_l0 rfl rfl rfl ?_
      refine a_s rfl rfl ?_
      refine a_geti rfl gfX12_194_12 rfl ?_
      refine a_top (y := nI 6) (D9.2.1.trans up2_at) ?_
      refine a_s rfl rfl ?_
      refine a_s rfl rfl ?_
      refine a_top (y := nI 5) (rfl) ?_
      refine a_puti rfl pfX12_194_12 rfl ?_
      have C9 := Cf.deep C1 hd D9
      have eT9 := Cf.tt C9 hT
      refine a_l0 rfl rfl rfl ?_
      refine a_s rfl rfl ?_
      refine a_gV rfl lX12_187 mo_X12_sign (h_sign (b := b9) (c := 41) (by rw [eT9]; exact hbt) (by decide) (Cf.pp C9) (by rw [eT9]; exact Cf.nb C9)) rfl rfl rfl ⟨12, _, rfl, rfl, rfl⟩ rfl (fun v' h' hv => ?_)
      obtain ⟨rfl, J3, rfl, h3⟩ := hv
      rw [eT9] at h3 ⊢
      cases c41 : sg T e b9 (nI 41) with
      | false =>
        have c41 : sg T e b9 41 = false := c41
        rw [if_neg (by rw [show sg T e b9 (nI 41) = false from c41]; decide)] at h3
        rw [if_neg (by rw [c41]; decide)]
        exact a_zret rfl rfl rfl (QF.no (Fm.tr C9.1 (Fm.mo (Rd.fm h3) sR_sY)) (Rd.be h3))
      | true =>
        have c41 : sg T e b9 41 = true := c41
        rw [if_pos (show sg T e b9 (nI 41) = true from c41)] at h3
        rw [if_pos c41]
        exact a_zret rfl rfl rfl (QF.yes (Cf.rd C9 h3 rfl))
  | false =>
  have c40 : sg T e b 40 = false := c40
  refine a_if_eq rfl (fun _ => ?_) (fun z => absurd rfl z)
  rw [if_neg (by rw [show sg T e b (nI 40) = false from c40]; decide)] at h1
  have C0 : Cf T e n0 b o I J1 b := Cf.rd h h1 (Cf.sk h)
  have eT0 := Cf.tt C0 hT
  refine a_l0 rfl rfl rfl ?_
  refine a_ldcs (q := 130 + 21) rfl (hw.ld (i := 21) (by decide)) ?_
  refine a_gV rfl lX12_128 mo_X12_passes (h_passes (b := b) (k := 21) hw (by decide) (Cf.pp C0) (by rw [eT0]; exact Cf.nb C0)) rfl rfl rfl ⟨12, _, rfl, rfl, rfl⟩ rfl (fun v' h' hv => ?_)
  obtain ⟨rfl, J2, rfl, h2⟩ := hv
  rw [eT0] at h2 ⊢
  cases c21 : isWd T e b 21 with
  | true =>
    refine a_if_eq rfl (fun z => absurd z (by decide)) (fun _ => ?_)
    rw [if_pos c21] at h2
    have n1 := nx_lt (T := T) (isWd_lt c21)
    have C2 : Cf T e n0 (nx T e b) o I J2 (en T e b) := Cf.rd C0 h2 rfl
    refine a_l0 rfl rfl rfl ?_
    refine a_geti rfl gfX12_194_12 rfl ?_
    refine a_top (y := nI 5) (Cf.d C2 hd) ?_
    refine a_s rfl rfl ?_
    refine a_ic_ne rfl (fun _ => ?_) (fun c => absurd c (by decide))
    refine a_l0 rfl rfl rfl ?_
    refine a_s rfl rfl ?_
    refine a_geti rfl gfX12_194_12 rfl ?_
    refine a_top (y := nI 5) (Cf.d C2 hd) ?_
    refine a_s rfl rfl ?_
    refine a_s rfl rfl ?_
    refine a_top (y := nI 6) (rfl) ?_
    refine a_puti rfl pfX12_194_12 rfl ?_
    refine a_l0 rfl rfl rfl ?_
    have g4 := atomR_gdo (T := T) (D := 0) (o := o) (Cf.le C2)
    refine a_gV rfl lX12_202 mo_X12_readAtom (h_readAtom_6 hw hbt ((up2_row (by decide)).trans (Cf.tt C2 hT)) up2_at (Cf.up13 C2) (by omega)) rfl rfl rfl ⟨12, _, rfl, rfl, rfl⟩ rfl (fun v' h' hv => ?_)
    obtain ⟨rfl, J9, p9, rfl, hz9, hf9⟩ := hv
    rcases hr9 : atomR T e 0 (nx T e b) o with ⟨z9, b9, o9⟩
    rw [hr9] at hz9 hf9 g4
    rw [atomR_n c40 c21 hr9]
    cases z9 with
    | false =>
      refine a_if_ne rfl (fun z => absurd rfl z) (fun _ => ?_)
      refine a_s rfl rfl ?_
      rw [if_neg (by decide)]
      exact a_zret rfl rfl rfl (QF.no (Fm.tr C2.1 (Fm.tr (Fm.up Fm.rf rfl) (hf9 rfl).1)) (hf9 rfl).2)
    | true =>
      refine a_if_ne rfl (fun _ => ?_) (fun z => absurd (show (1 : Int32) = 0 from z) (by decide))
      rw [if_pos rfl]
      have D9 : Cf T e n0 b9 o9 (up2 J2 420 13 (nI 6)) J9 p9 := hz9 rfl
      obtain ⟨-, -, g5⟩ := g4
      have g5 : nx T e b < b9 ∧ o9.length + nx T e b ≤ o.length + b9 := g5 rfl
      have c9e := Cf.le D9
      refine a_l0 rfl rfl rfl ?_
      refine a_s rfl rfl ?_
      refine a_geti rfl gfX12_194_12 rfl ?_
      refine a_top (y := nI 6) (D9.2.1.trans up2_at) ?_
      refine a_s rfl rfl ?_
      refine a_s rfl rfl ?_
      refine a_top (y := nI 5) (rfl) ?_
      refine a_puti rfl pfX12_194_12 rfl ?_
      have C9 := Cf.deep C2 hd D9
      refine a_l0 rfl rfl rfl ?_
      refine a_s rfl rfl ?_
      refine a_s rfl rfl ?_
      refine a_eV0 rfl lX12_180 mo_X12_emits (r_X12_emits (Cf.st C9) (by omega)) rfl rfl rfl ⟨12, _, rfl, rfl, rfl⟩ rfl ?_
      refine a_s rfl rfl ?_
      exact a_zret rfl rfl rfl (QF.yes (Cf.em (z := 2003) C9 (by decide) (by decide)))
  | false =>
  refine a_if_eq rfl (fun _ => ?_) (fun z => absurd rfl z)
  rw [if_neg (by rw [c21]; decide)] at h2
  have C2 : Cf T e n0 b o I J2 b := Cf.rd C0 h2 (Cf.sk C0)
  rw [atomR_b c40 c21]
  refine a_l0 rfl rfl rfl ?_
  refine a_gV rfl lX12_205 mo_X12_readTag (h_readTag hw (Cf.tt C2 hT) (Cf.rf C2) hB) rfl rfl rfl ⟨12, _, rfl, rfl, rfl⟩ rfl (fun v' h' hv => ?_)
  obtain ⟨z3, x3, J3, p3, rfl, rfl, ht3, hf3⟩ := hv
  cases z3 with
  | true =>
    refine a_if_eq rfl (fun z => absurd z (by decide)) (fun _ => ?_)
    refine a_s rfl rfl ?_
    obtain ⟨hx, D3⟩ := ht3 rfl
    rcases hx with ⟨c22, rfl⟩ | ⟨c22, c23, rfl⟩
    · rw [show baseP T e b o = (true, nx T e b, 1007 :: o) from if_pos c22]
      exact a_zret rfl rfl rfl (QF.yes (Cf.cc C2 D3))
    · rw [show baseP T e b o = (true, nx T e b, 1008 :: o) from (if_neg (by rw [c22]; decide)).trans (if_pos c23)]
      exact a_zret rfl rfl rfl (QF.yes (Cf.cc C2 D3))
  | false =>
  refine a_if_eq rfl (fun _ => ?_) (fun z => absurd rfl z)
  obtain ⟨⟨c22, c23⟩, D3⟩ := hf3 rfl
  have C3 := Cf.cc C2 D3
  have g4 := sumP_gd (T := T) (o := o) hbe
  refine a_l0 rfl rfl rfl ?_
  refine a_gV rfl lX12_208 mo_X12_readSum (h_readSum hw hbt (Cf.tt C3 hT) (Cf.rf C3) hB) rfl rfl rfl ⟨12, _, rfl, rfl, rfl⟩ rfl (fun v' h' hv => ?_)
  obtain ⟨rfl, J4, p4, rfl, hz4, hf4⟩ := hv
  rcases hr4 : sumP T e b o with ⟨z4, b4, o4⟩
  rw [baseP_s c22 c23 hr4]
  rw [hr4] at hz4 hf4 g4
  cases z4 with
  | false =>
    refine a_if_ne rfl (fun z => absurd rfl z) (fun _ => ?_)
    refine a_s rfl rfl ?_
    rw [if_neg (by decide)]
    exact a_zret rfl rfl rfl (Cf.no C3 (hf4 rfl).1 (hf4 rfl).2)
  | true =>
  refine a_if_ne rfl (fun _ => ?_) (fun z => absurd (show (1 : Int32) = 0 from z) (by decide))
  rw [if_pos rfl]
  have C4 : Cf T e n0 b4 o4 I J4 p4 := Cf.cc C3 (hz4 rfl)
  obtain ⟨-, -, g4⟩ := g4
  have g4 : b < b4 ∧ o4.length + b ≤ o.length + b4 := g4 rfl
  have key : ∀ {z5 : Bool} {x : Int32} {p' : Nat} {J : Nat → Nat → Int32}, b4 < nx T e b4 → x = (if z5 = true then 2001 else 2002) → Cf T e n0 (nx T e b4) o4 I J p' → AW S m_X12_readAtom 23 (QF T e n0 (cmpP T e x (nx T e b4) o4) I L w1 w2 t) nX 0 0 152 [some (.ref 420), some (.int (bI z5))] [] (hp J L w1 w2 t) := by
    intro z5 x p' J n4 hx C
    have g6 := sumP_gd (T := T) (o := o4) (Cf.le C)
    refine a_l0 rfl rfl rfl ?_
    refine a_gV rfl lX12_208 mo_X12_readSum (h_readSum hw hbt (Cf.tt C hT) (Cf.rf C) (by omega)) rfl rfl rfl ⟨12, _, rfl, rfl, rfl⟩ rfl (fun v' h' hv => ?_)
    obtain ⟨rfl, J6, p6, rfl, hz6, hf6⟩ := hv
    rcases hr6 : sumP T e (nx T e b4) o4 with ⟨z6, b6, o6⟩
    rw [hr6] at hz6 hf6 g6
    cases z6 with
    | false =>
      refine a_if_ne rfl (fun z => absurd rfl z) (fun _ => ?_)
      refine a_s rfl rfl ?_
      rw [cmpP_f hr6]
      exact a_zret rfl rfl rfl (Cf.no C (hf6 rfl).1 (hf6 rfl).2)
    | true =>
      refine a_if_ne rfl (fun _ => ?_) (fun z => absurd (show (1 : Int32) = 0 from z) (by decide))
      rw [cmpP_t hr6]
      have C6 : Cf T e n0 b6 o6 I J6 p6 := Cf.cc C (hz6 rfl)
      have c6e := Cf.le C6
      obtain ⟨-, -, g6⟩ := g6
      have g6 : nx T e b4 < b6 ∧ o6.length + nx T e b4 ≤ o4.length + b6 := g6 rfl
      refine a_l0 rfl rfl rfl ?_
      refine a_l1 rfl rfl rfl ?_
      cases z5 with
      | false =>
        rw [if_neg (by decide)] at hx
        subst hx
        refine a_if_eq rfl (fun _ => ?_) (fun c => absurd rfl c)
        refine a_s rfl rfl ?_
        refine a_s rfl rfl ?_
        refine a_eV0 rfl lX12_180 mo_X12_emits (r_X12_emits (Cf.st C6) (by omega)) rfl rfl rfl ⟨12, _, rfl, rfl, rfl⟩ rfl ?_
        refine a_s rfl rfl ?_
        exact a_zret rfl rfl rfl (QF.yes (Cf.em (z := 2002) C6 (by decide) (by decide)))
      | true =>
        rw [if_pos rfl] at hx
        subst hx
        refine a_if_eq rfl (fun c => absurd c (by decide)) (fun _ => ?_)
        refine a_s rfl rfl ?_
        refine a_goto rfl ?_
        refine a_s rfl rfl ?_
        refine a_eV0 rfl lX12_180 mo_X12_emits (r_X12_emits (Cf.st C6) (by omega)) rfl rfl rfl ⟨12, _, rfl, rfl, rfl⟩ rfl ?_
        refine a_s rfl rfl ?_
        exact a_zret rfl rfl rfl (QF.yes (Cf.em (z := 2001) C6 (by decide) (by decide)))
  have eT4 := Cf.tt C4 hT
  refine a_l0 rfl rfl rfl ?_
  refine a_s rfl rfl ?_
  refine a_gV rfl lX12_187 mo_X12_sign (h_sign (b := b4) (c := 60) (by rw [eT4]; exact hbt) (by decide) (Cf.pp C4) (by rw [eT4]; exact Cf.nb C4)) rfl rfl rfl ⟨12, _, rfl, rfl, rfl⟩ rfl (fun v' h' hv => ?_)
  obtain ⟨rfl, J5, rfl, h5⟩ := hv
  rw [eT4] at h5 ⊢
  refine a_s1 rfl rfl rfl rfl rfl rfl ?_
  refine a_l1 rfl rfl rfl ?_
  cases c60 : sg T e b4 (nI 60) with
  | true =>
    have c60 : sg T e b4 60 = true := c60
    refine a_if_ne rfl (fun _ => ?_) (fun z => absurd (show (1 : Int32) = 0 from z) (by decide))
    rw [if_pos (show sg T e b4 (nI 60) = true from c60)] at h5
    rw [if_pos c60]
    exact key (z5 := true) (nx_lt (sg_lt c60)) rfl (Cf.rd C4 h5 rfl)
  | false =>
  have c60 : sg T e b4 60 = false := c60
  refine a_if_ne rfl (fun z => absurd rfl z) (fun _ => ?_)
  rw [if_neg (by rw [show sg T e b4 (nI 60) = false from c60]; decide)] at h5
  rw [if_neg (by rw [c60]; decide)]
  have C5 : Cf T e n0 b4 o4 I J5 b4 := Cf.rd C4 h5 (Cf.sk C4)
  have eT5 := Cf.tt C5 hT
  refine a_l0 rfl rfl rfl ?_
  refine a_s rfl rfl ?_
  refine a_gV rfl lX12_187 mo_X12_sign (h_sign (b := b4) (c := 62) (by rw [eT5]; exact hbt) (by decide) (Cf.pp C5) (by rw [eT5]; exact Cf.nb C5)) rfl rfl rfl ⟨12, _, rfl, rfl, rfl⟩ rfl (fun v' h' hv => ?_)
  obtain ⟨rfl, J7, rfl, h7⟩ := hv
  rw [eT5] at h7 ⊢
  cases c62 : sg T e b4 (nI 62) with
  | false =>
    have c62 : sg T e b4 62 = false := c62
    refine a_if_eq rfl (fun _ => ?_) (fun z => absurd rfl z)
    rw [if_neg (by rw [show sg T e b4 (nI 62) = false from c62]; decide)] at h7
    rw [if_neg (by rw [c62]; decide)]
    refine a_s rfl rfl ?_
    exact a_zret rfl rfl rfl (QF.no (Fm.tr C5.1 (Fm.mo (Rd.fm h7) sR_sY)) (Rd.be h7))
  | true =>
    have c62 : sg T e b4 62 = true := c62
    refine a_if_eq rfl (fun z => absurd z (by decide)) (fun _ => ?_)
    rw [if_pos (show sg T e b4 (nI 62) = true from c62)] at h7
    rw [if_pos c62]
    exact key (z5 := false) (nx_lt (sg_lt c62)) rfl (Cf.rd C5 h7 rfl)
theorem h_readAllOf_5 (hw : WdS S) (hbt : BtT T) (hT : I 426 = T) (hd : I 420 13 = nI 5) (h : Cf T e n0 b o I I p) (hB : o.length < b) : Sp S m_X12_readAllOf 24 0 0 [.ref 420] (hp I L w1 w2 t) (QF T e n0 (seqP T e (atomR T e 1) 20 2004 b o) I L w1 w2 t) nX := by
  have he4 := Cf.e4 h
  have g0 := atomR_gdo (T := T) (D := 1) (o := o) (Cf.le h)
  refine Sp_of ok_X12_readAllOf rfl rfl ?_
  show AW S m_X12_readAllOf 24 _ _ 0 0 0 [some (.ref 420)] [] (hp I L w1 w2 t)
  refine a_l0 rfl rfl rfl ?_
  refine a_gV rfl lX12_202 mo_X12_readAtom (h_readAtom_5 hw hbt hT hd h hB) rfl rfl rfl ⟨12, _, rfl, rfl, rfl⟩ rfl (fun v' h' hv => ?_)
  obtain ⟨rfl, J1, p1, rfl, hz1, hf1⟩ := hv
  rcases hr : (atomR T e 1) b o with ⟨z, b1, o1⟩
  rw [seqP_of hr]
  rw [hr] at hz1 hf1 g0
  cases z with
  | false =>
    refine a_if_ne rfl (fun z => absurd rfl z) (fun _ => ?_)
    refine a_s rfl rfl ?_
    rw [if_neg (by decide)]
    exact a_zret rfl rfl rfl (QF.no (hf1 rfl).1 (hf1 rfl).2)
  | true =>
  refine a_if_ne rfl (fun _ => ?_) (fun z => absurd (show (1 : Int32) = 0 from z) (by decide))
  rw [if_pos rfl]
  obtain ⟨-, -, g3⟩ := g0
  have g3 : b < b1 ∧ o1.length + b ≤ o.length + b1 := g3 rfl
  generalize hR : loopP T e (atomR T e 1) 20 2004 b1 o1 = R
  refine a_inv (n := e - b1) (fun m ls h => ls = [some (.ref 420)] ∧ ∃ J p' b' o', h = hp J L w1 w2 t ∧ Cf T e n0 b' o' I J p' ∧ o'.length < b' ∧ loopP T e (atomR T e 1) 20 2004 b' o' = R ∧ m = e - b') ⟨rfl, J1, p1, _, _, rfl, hz1 rfl, by show o1.length < b1; omega, hR, rfl⟩ ?_
  rintro m _ _ ⟨rfl, J, p', b', o', rfl, C, hB', es, hm⟩ ih
  have eT := Cf.tt C hT
  refine a_l0 rfl rfl rfl ?_
  refine a_ldcs (q := 130 + 20) rfl (hw.ld (i := 20) (by decide)) ?_
  refine a_gV rfl lX12_128 mo_X12_passes (h_passes (b := b') (k := 20) hw (by decide) (Cf.pp C) (by rw [eT]; exact Cf.nb C)) rfl rfl rfl ⟨12, _, rfl, rfl, rfl⟩ rfl (fun v' h' hv => ?_)
  obtain ⟨rfl, J2, rfl, h2⟩ := hv
  rw [eT] at h2 ⊢
  cases cw : isWd T e b' 20 with
  | false =>
    refine a_if_eq rfl (fun _ => ?_) (fun z => absurd rfl z)
    rw [if_neg (by rw [cw]; decide)] at h2
    refine a_s rfl rfl ?_
    rw [← es, loopP_f cw]
    exact a_zret rfl rfl rfl (QF.yes (Cf.rd C h2 (Cf.sk C)))
  | true =>
    refine a_if_eq rfl (fun z => absurd z (by decide)) (fun _ => ?_)
    rw [if_pos cw] at h2
    have n2 := nx_lt (T := T) (isWd_lt cw)
    have C2 : Cf T e n0 (nx T e b') o' I J2 (en T e b') := Cf.rd C h2 rfl
    have n2e := Cf.le C2
    have g4 := atomR_gdo (T := T) (D := 1) (o := o') n2e
    refine a_l0 rfl rfl rfl ?_
    refine a_gV rfl lX12_202 mo_X12_readAtom (h_readAtom_5 hw hbt (Cf.tt C2 hT) (Cf.d C2 hd) (Cf.rf C2) (by omega)) rfl rfl rfl ⟨12, _, rfl, rfl, rfl⟩ rfl (fun v' h' hv => ?_)
    obtain ⟨rfl, J3, p3, rfl, hz3, hf3⟩ := hv
    have el := fun g => loopP_t (op := 2004) (o := o') (item := atomR T e 1) cw g
    have en' := loopP_n (op := 2004) (o := o') (item := atomR T e 1) cw
    rcases hr2 : (atomR T e 1) (nx T e b') o' with ⟨z2, b2, o2⟩
    rw [hr2] at hz3 hf3 g4 el en'
    cases z2 with
    | false =>
      refine a_if_ne rfl (fun z => absurd rfl z) (fun _ => ?_)
      refine a_s rfl rfl ?_
      rw [← es, en' Bool.false_ne_true]
      exact a_zret rfl rfl rfl (Cf.no C2 (hf3 rfl).1 (hf3 rfl).2)
    | true =>
      refine a_if_ne rfl (fun _ => ?_) (fun z => absurd (show (1 : Int32) = 0 from z) (by decide))
      have C3 : Cf T e n0 b2 o2 I J3 p3 := Cf.cc C2 (hz3 rfl)
      have c3e := Cf.le C3
      obtain ⟨-, -, g5⟩ := g4
      have g5 : nx T e b' < b2 ∧ o2.length + nx T e b' ≤ o'.length + b2 := g5 rfl
      have es2 : loopP T e (atomR T e 1) 20 2004 b2 (2004 :: o2) = R := (el (by show b' < b2; omega) rfl).symm.trans es
      refine a_l0 rfl rfl rfl ?_
      refine a_s rfl rfl ?_
      refine a_s rfl rfl ?_
      refine a_eV0 rfl lX12_180 mo_X12_emits (r_X12_emits (Cf.st C3) (by omega)) rfl rfl rfl ⟨12, _, rfl, rfl, rfl⟩ rfl ?_
      refine a_goto rfl ?_
      exact ih (e - b2) _ _ (by omega) ⟨rfl, _, p3, b2, _, rfl, Cf.em (z := 2004) C3 (by decide) (by decide), by show o2.length + 1 < b2; omega, es2, rfl⟩
theorem h_readCond_5 (hw : WdS S) (hbt : BtT T) (hT : I 426 = T) (hd : I 420 13 = nI 5) (h : Cf T e n0 b o I I p) (hB : o.length < b) : Sp S m_X12_readCond 25 0 0 [.ref 420] (hp I L w1 w2 t) (QF T e n0 (seqP T e (seqP T e (atomR T e 1) 20 2004) 19 2005 b o) I L w1 w2 t) nX := by
  have he4 := Cf.e4 h
  have g0 := seqA_gd (T := T) (D := 1) (o := o) (Cf.le h)
  refine Sp_of ok_X12_readCond rfl rfl ?_
  show AW S m_X12_readCond 25 _ _ 0 0 0 [some (.ref 420)] [] (hp I L w1 w2 t)
  refine a_l0 rfl rfl rfl ?_
  refine a_gV rfl lX12_213 mo_X12_readAllOf (h_readAllOf_5 hw hbt hT hd h hB) rfl rfl rfl ⟨12, _, rfl, rfl, rfl⟩ rfl (fun v' h' hv => ?_)
  obtain ⟨rfl, J1, p1, rfl, hz1, hf1⟩ := hv
  rcases hr : (seqP T e (atomR T e 1) 20 2004) b o with ⟨z, b1, o1⟩
  rw [seqP_of hr]
  rw [hr] at hz1 hf1 g0
  cases z with
  | false =>
    refine a_if_ne rfl (fun z => absurd rfl z) (fun _ => ?_)
    refine a_s rfl rfl ?_
    rw [if_neg (by decide)]
    exact a_zret rfl rfl rfl (QF.no (hf1 rfl).1 (hf1 rfl).2)
  | true =>
  refine a_if_ne rfl (fun _ => ?_) (fun z => absurd (show (1 : Int32) = 0 from z) (by decide))
  rw [if_pos rfl]
  obtain ⟨-, -, g3⟩ := g0
  have g3 : b < b1 ∧ o1.length + b ≤ o.length + b1 := g3 rfl
  generalize hR : loopP T e (seqP T e (atomR T e 1) 20 2004) 19 2005 b1 o1 = R
  refine a_inv (n := e - b1) (fun m ls h => ls = [some (.ref 420)] ∧ ∃ J p' b' o', h = hp J L w1 w2 t ∧ Cf T e n0 b' o' I J p' ∧ o'.length < b' ∧ loopP T e (seqP T e (atomR T e 1) 20 2004) 19 2005 b' o' = R ∧ m = e - b') ⟨rfl, J1, p1, _, _, rfl, hz1 rfl, by show o1.length < b1; omega, hR, rfl⟩ ?_
  rintro m _ _ ⟨rfl, J, p', b', o', rfl, C, hB', es, hm⟩ ih
  have eT := Cf.tt C hT
  refine a_l0 rfl rfl rfl ?_
  refine a_ldcs (q := 130 + 19) rfl (hw.ld (i := 19) (by decide)) ?_
  refine a_gV rfl lX12_128 mo_X12_passes (h_passes (b := b') (k := 19) hw (by decide) (Cf.pp C) (by rw [eT]; exact Cf.nb C)) rfl rfl rfl ⟨12, _, rfl, rfl, rfl⟩ rfl (fun v' h' hv => ?_)
  obtain ⟨rfl, J2, rfl, h2⟩ := hv
  rw [eT] at h2 ⊢
  cases cw : isWd T e b' 19 with
  | false =>
    refine a_if_eq rfl (fun _ => ?_) (fun z => absurd rfl z)
    rw [if_neg (by rw [cw]; decide)] at h2
    refine a_s rfl rfl ?_
    rw [← es, loopP_f cw]
    exact a_zret rfl rfl rfl (QF.yes (Cf.rd C h2 (Cf.sk C)))
  | true =>
    refine a_if_eq rfl (fun z => absurd z (by decide)) (fun _ => ?_)
    rw [if_pos cw] at h2
    have n2 := nx_lt (T := T) (isWd_lt cw)
    have C2 : Cf T e n0 (nx T e b') o' I J2 (en T e b') := Cf.rd C h2 rfl
    have n2e := Cf.le C2
    have g4 := seqA_gd (T := T) (D := 1) (o := o') n2e
    refine a_l0 rfl rfl rfl ?_
    refine a_gV rfl lX12_213 mo_X12_readAllOf (h_readAllOf_5 hw hbt (Cf.tt C2 hT) (Cf.d C2 hd) (Cf.rf C2) (by omega)) rfl rfl rfl ⟨12, _, rfl, rfl, rfl⟩ rfl (fun v' h' hv => ?_)
    obtain ⟨rfl, J3, p3, rfl, hz3, hf3⟩ := hv
    have el := fun g => loopP_t (op := 2005) (o := o') (item := seqP T e (atomR T e 1) 20 2004) cw g
    have en' := loopP_n (op := 2005) (o := o') (item := seqP T e (atomR T e 1) 20 2004) cw
    rcases hr2 : (seqP T e (atomR T e 1) 20 2004) (nx T e b') o' with ⟨z2, b2, o2⟩
    rw [hr2] at hz3 hf3 g4 el en'
    cases z2 with
    | false =>
      refine a_if_ne rfl (fun z => absurd rfl z) (fun _ => ?_)
      refine a_s rfl rfl ?_
      rw [← es, en' Bool.false_ne_true]
      exact a_zret rfl rfl rfl (Cf.no C2 (hf3 rfl).1 (hf3 rfl).2)
    | true =>
      refine a_if_ne rfl (fun _ => ?_) (fun z => absurd (show (1 : Int32) = 0 from z) (by decide))
      have C3 : Cf T e n0 b2 o2 I J3 p3 := Cf.cc C2 (hz3 rfl)
      have c3e := Cf.le C3
      obtain ⟨-, -, g5⟩ := g4
      have g5 : nx T e b' < b2 ∧ o2.length + nx T e b' ≤ o'.length + b2 := g5 rfl
      have es2 : loopP T e (seqP T e (atomR T e 1) 20 2004) 19 2005 b2 (2005 :: o2) = R := (el (by show b' < b2; omega) rfl).symm.trans es
      refine a_l0 rfl rfl rfl ?_
      refine a_s rfl rfl ?_
      refine a_s rfl rfl ?_
      refine a_eV0 rfl lX12_180 mo_X12_emits (r_X12_emits (Cf.st C3) (by omega)) rfl rfl rfl ⟨12, _, rfl, rfl, rfl⟩ rfl ?_
      refine a_goto rfl ?_
      exact ih (e - b2) _ _ (by omega) ⟨rfl, _, p3, b2, _, rfl, Cf.em (z := 2005) C3 (by decide) (by decide), by show o2.length + 1 < b2; omega, es2, rfl⟩
theorem h_readAtom_4 (hw : WdS S) (hbt : BtT T) (hT : I 426 = T) (hd : I 420 13 = nI 4) (h : Cf T e n0 b o I I p) (hB : o.length < b) : Sp S m_X12_readAtom 26 0 0 [.ref 420] (hp I L w1 w2 t) (QF T e n0 (atomR T e 2 b o) I L w1 w2 t) nX := by
  have he4 := Cf.e4 h
  have hbe := Cf.le h
  refine Sp_of ok_X12_readAtom rfl rfl ?_
  show AW S m_X12_readAtom 26 _ _ 0 0 0 [some (.ref 420), none] [] (hp I L w1 w2 t)
  refine a_l0 rfl rfl rfl ?_
  refine a_s rfl rfl ?_
  refine a_gV rfl lX12_187 mo_X12_sign (h_sign (b := b) (c := 40) (by rw [hT]; exact hbt) (by decide) (Cf.pp h) (by rw [hT]; exact Cf.nb h)) rfl rfl rfl ⟨12, _, rfl, rfl, rfl⟩ rfl (fun v' h' hv => ?_)
  obtain ⟨rfl, J1, rfl, h1⟩ := hv
  rw [hT] at h1 ⊢
  cases c40 : sg T e b (nI 40) with
  | true =>
    have c40 : sg T e b 40 = true := c40
    refine a_if_eq rfl (fun z => absurd z (by decide)) (fun _ => ?_)
    rw [if_pos (show sg T e b (nI 40) = true from c40)] at h1
    have n1 := nx_lt (T := T) (sg_lt c40)
    have C1 : Cf T e n0 (nx T e b) o I J1 (en T e b) := Cf.rd h h1 rfl
    refine a_l0 rfl rfl rfl ?_
    refine a_geti rfl gfX12_194_12 rfl ?_
    refine a_top (y := nI 4) (Cf.d C1 hd) ?_
    refine a_s rfl rfl ?_
    refine a_ic_ne rfl (fun _ => ?_) (fun c => absurd c (by decide))
    refine a_l0 rfl rfl rfl ?_
    refine a_s rfl rfl ?_
    refine a_geti rfl gfX12_194_12 rfl ?_
    refine a_top (y := nI 4) (Cf.d C1 hd) ?_
    refine a_s rfl rfl ?_
    refine a_s rfl rfl ?_
    refine a_top (y := nI 5) (rfl) ?_
    refine a_puti rfl pfX12_194_12 rfl ?_
    refine a_l0 rfl rfl rfl ?_
    have g4 := cndP_gd (T := T) (fun b o h => atomR_gd (T := T) 1 b o h) (o := o) (Cf.le C1)
    refine a_gV rfl lX12_197 mo_X12_readCond (h_readCond_5 hw hbt ((up2_row (by decide)).trans (Cf.tt C1 hT)) up2_at (Cf.up13 C1) (by omega)) rfl rfl rfl ⟨12, _, rfl, rfl, rfl⟩ rfl (fun v' h' hv => ?_)
    obtain ⟨rfl, J9, p9, rfl, hz9, hf9⟩ := hv
    rw [show seqP T e (seqP T e (atomR T e 1) 20 2004) 19 2005 = cndP T e (atomR T e 1) from rfl] at hz9 hf9 ⊢
    rcases hr9 : cndP T e (atomR T e 1) (nx T e b) o with ⟨z9, b9, o9⟩
    rw [hr9] at hz9 hf9 g4
    rw [atomR_p c40 hr9]
    cases z9 with
    | false =>
      refine a_if_ne rfl (fun z => absurd rfl z) (fun _ => ?_)
      refine a_s rfl rfl ?_
      rw [if_neg (by decide)]
      exact a_zret rfl rfl rfl (QF.no (Fm.tr C1.1 (Fm.tr (Fm.up Fm.rf rfl) (hf9 rfl).1)) (hf9 rfl).2)
    | true =>
      refine a_if_ne rfl (fun _ => ?_) (fun z => absurd (show (1 : Int32) = 0 from z) (by decide))
      rw [if_pos rfl]
      have D9 : Cf T e n0 b9 o9 (up2 J1 420 13 (nI 5)) J9 p9 := hz9 rfl
      refine a_l0 rfl rfl rfl ?_
      refine a_s rfl rfl ?_
      refine a_geti rfl gfX12_194_12 rfl ?_
      refine a_top (y := nI 5) (D9.2.1.trans up2_at) ?_
      refine a_s rfl rfl ?_
      refine a_s rfl rfl ?_
      refine a_top (y := nI 4) (rfl) ?_
      refine a_puti rfl pfX12_194_12 rfl ?_
      have C9 := Cf.deep C1 hd D9
      have eT9 := Cf.tt C9 hT
      refine a_l0 rfl rfl rfl ?_
      refine a_s rfl rfl ?_
      refine a_gV rfl lX12_187 mo_X12_sign (h_sign (b := b9) (c := 41) (by rw [eT9]; exact hbt) (by decide) (Cf.pp C9) (by rw [eT9]; exact Cf.nb C9)) rfl rfl rfl ⟨12, _, rfl, rfl, rfl⟩ rfl (fun v' h' hv => ?_)
      obtain ⟨rfl, J3, rfl, h3⟩ := hv
      rw [eT9] at h3 ⊢
      cases c41 : sg T e b9 (nI 41) with
      | false =>
        have c41 : sg T e b9 41 = false := c41
        rw [if_neg (by rw [show sg T e b9 (nI 41) = false from c41]; decide)] at h3
        rw [if_neg (by rw [c41]; decide)]
        exact a_zret rfl rfl rfl (QF.no (Fm.tr C9.1 (Fm.mo (Rd.fm h3) sR_sY)) (Rd.be h3))
      | true =>
        have c41 : sg T e b9 41 = true := c41
        rw [if_pos (show sg T e b9 (nI 41) = true from c41)] at h3
        rw [if_pos c41]
        exact a_zret rfl rfl rfl (QF.yes (Cf.rd C9 h3 rfl))
  | false =>
  have c40 : sg T e b 40 = false := c40
  refine a_if_eq rfl (fun _ => ?_) (fun z => absurd rfl z)
  rw [if_neg (by rw [show sg T e b (nI 40) = false from c40]; decide)] at h1
  have C0 : Cf T e n0 b o I J1 b := Cf.rd h h1 (Cf.sk h)
  have eT0 := Cf.tt C0 hT
  refine a_l0 rfl rfl rfl ?_
  refine a_ldcs (q := 130 + 21) rfl (hw.ld (i := 21) (by decide)) ?_
  refine a_gV rfl lX12_128 mo_X12_passes (h_passes (b := b) (k := 21) hw (by decide) (Cf.pp C0) (by rw [eT0]; exact Cf.nb C0)) rfl rfl rfl ⟨12, _, rfl, rfl, rfl⟩ rfl (fun v' h' hv => ?_)
  obtain ⟨rfl, J2, rfl, h2⟩ := hv
  rw [eT0] at h2 ⊢
  cases c21 : isWd T e b 21 with
  | true =>
    refine a_if_eq rfl (fun z => absurd z (by decide)) (fun _ => ?_)
    rw [if_pos c21] at h2
    have n1 := nx_lt (T := T) (isWd_lt c21)
    have C2 : Cf T e n0 (nx T e b) o I J2 (en T e b) := Cf.rd C0 h2 rfl
    refine a_l0 rfl rfl rfl ?_
    refine a_geti rfl gfX12_194_12 rfl ?_
    refine a_top (y := nI 4) (Cf.d C2 hd) ?_
    refine a_s rfl rfl ?_
    refine a_ic_ne rfl (fun _ => ?_) (fun c => absurd c (by decide))
    refine a_l0 rfl rfl rfl ?_
    refine a_s rfl rfl ?_
    refine a_geti rfl gfX12_194_12 rfl ?_
    refine a_top (y := nI 4) (Cf.d C2 hd) ?_
    refine a_s rfl rfl ?_
    refine a_s rfl rfl ?_
    refine a_top (y := nI 5) (rfl) ?_
    refine a_puti rfl pfX12_194_12 rfl ?_
    refine a_l0 rfl rfl rfl ?_
    have g4 := atomR_gdo (T := T) (D := 1) (o := o) (Cf.le C2)
    refine a_gV rfl lX12_202 mo_X12_readAtom (h_readAtom_5 hw hbt ((up2_row (by decide)).trans (Cf.tt C2 hT)) up2_at (Cf.up13 C2) (by omega)) rfl rfl rfl ⟨12, _, rfl, rfl, rfl⟩ rfl (fun v' h' hv => ?_)
    obtain ⟨rfl, J9, p9, rfl, hz9, hf9⟩ := hv
    rcases hr9 : atomR T e 1 (nx T e b) o with ⟨z9, b9, o9⟩
    rw [hr9] at hz9 hf9 g4
    rw [atomR_n c40 c21 hr9]
    cases z9 with
    | false =>
      refine a_if_ne rfl (fun z => absurd rfl z) (fun _ => ?_)
      refine a_s rfl rfl ?_
      rw [if_neg (by decide)]
      exact a_zret rfl rfl rfl (QF.no (Fm.tr C2.1 (Fm.tr (Fm.up Fm.rf rfl) (hf9 rfl).1)) (hf9 rfl).2)
    | true =>
      refine a_if_ne rfl (fun _ => ?_) (fun z => absurd (show (1 : Int32) = 0 from z) (by decide))
      rw [if_pos rfl]
      have D9 : Cf T e n0 b9 o9 (up2 J2 420 13 (nI 5)) J9 p9 := hz9 rfl
      obtain ⟨-, -, g5⟩ := g4
      have g5 : nx T e b < b9 ∧ o9.length + nx T e b ≤ o.length + b9 := g5 rfl
      have c9e := Cf.le D9
      refine a_l0 rfl rfl rfl ?_
      refine a_s rfl rfl ?_
      refine a_geti rfl gfX12_194_12 rfl ?_
      refine a_top (y := nI 5) (D9.2.1.trans up2_at) ?_
      refine a_s rfl rfl ?_
      refine a_s rfl rfl ?_
      refine a_top (y := nI 4) (rfl) ?_
      refine a_puti rfl pfX12_194_12 rfl ?_
      have C9 := Cf.deep C2 hd D9
      refine a_l0 rfl rfl rfl ?_
      refine a_s rfl rfl ?_
      refine a_s rfl rfl ?_
      refine a_eV0 rfl lX12_180 mo_X12_emits (r_X12_emits (Cf.st C9) (by omega)) rfl rfl rfl ⟨12, _, rfl, rfl, rfl⟩ rfl ?_
      refine a_s rfl rfl ?_
      exact a_zret rfl rfl rfl (QF.yes (Cf.em (z := 2003) C9 (by decide) (by decide)))
  | false =>
  refine a_if_eq rfl (fun _ => ?_) (fun z => absurd rfl z)
  rw [if_neg (by rw [c21]; decide)] at h2
  have C2 : Cf T e n0 b o I J2 b := Cf.rd C0 h2 (Cf.sk C0)
  rw [atomR_b c40 c21]
  refine a_l0 rfl rfl rfl ?_
  refine a_gV rfl lX12_205 mo_X12_readTag (h_readTag hw (Cf.tt C2 hT) (Cf.rf C2) hB) rfl rfl rfl ⟨12, _, rfl, rfl, rfl⟩ rfl (fun v' h' hv => ?_)
  obtain ⟨z3, x3, J3, p3, rfl, rfl, ht3, hf3⟩ := hv
  cases z3 with
  | true =>
    refine a_if_eq rfl (fun z => absurd z (by decide)) (fun _ => ?_)
    refine a_s rfl rfl ?_
    obtain ⟨hx, D3⟩ := ht3 rfl
    rcases hx with ⟨c22, rfl⟩ | ⟨c22, c23, rfl⟩
    · rw [show baseP T e b o = (true, nx T e b, 1007 :: o) from if_pos c22]
      exact a_zret rfl rfl rfl (QF.yes (Cf.cc C2 D3))
    · rw [show baseP T e b o = (true, nx T e b, 1008 :: o) from (if_neg (by rw [c22]; decide)).trans (if_pos c23)]
      exact a_zret rfl rfl rfl (QF.yes (Cf.cc C2 D3))
  | false =>
  refine a_if_eq rfl (fun _ => ?_) (fun z => absurd rfl z)
  obtain ⟨⟨c22, c23⟩, D3⟩ := hf3 rfl
  have C3 := Cf.cc C2 D3
  have g4 := sumP_gd (T := T) (o := o) hbe
  refine a_l0 rfl rfl rfl ?_
  refine a_gV rfl lX12_208 mo_X12_readSum (h_readSum hw hbt (Cf.tt C3 hT) (Cf.rf C3) hB) rfl rfl rfl ⟨12, _, rfl, rfl, rfl⟩ rfl (fun v' h' hv => ?_)
  obtain ⟨rfl, J4, p4, rfl, hz4, hf4⟩ := hv
  rcases hr4 : sumP T e b o with ⟨z4, b4, o4⟩
  rw [baseP_s c22 c23 hr4]
  rw [hr4] at hz4 hf4 g4
  cases z4 with
  | false =>
    refine a_if_ne rfl (fun z => absurd rfl z) (fun _ => ?_)
    refine a_s rfl rfl ?_
    rw [if_neg (by decide)]
    exact a_zret rfl rfl rfl (Cf.no C3 (hf4 rfl).1 (hf4 rfl).2)
  | true =>
  refine a_if_ne rfl (fun _ => ?_) (fun z => absurd (show (1 : Int32) = 0 from z) (by decide))
  rw [if_pos rfl]
  have C4 : Cf T e n0 b4 o4 I J4 p4 := Cf.cc C3 (hz4 rfl)
  obtain ⟨-, -, g4⟩ := g4
  have g4 : b < b4 ∧ o4.length + b ≤ o.length + b4 := g4 rfl
  have key : ∀ {z5 : Bool} {x : Int32} {p' : Nat} {J : Nat → Nat → Int32}, b4 < nx T e b4 → x = (if z5 = true then 2001 else 2002) → Cf T e n0 (nx T e b4) o4 I J p' → AW S m_X12_readAtom 26 (QF T e n0 (cmpP T e x (nx T e b4) o4) I L w1 w2 t) nX 0 0 152 [some (.ref 420), some (.int (bI z5))] [] (hp J L w1 w2 t) := by
    intro z5 x p' J n4 hx C
    have g6 := sumP_gd (T := T) (o := o4) (Cf.le C)
    refine a_l0 rfl rfl rfl ?_
    refine a_gV rfl lX12_208 mo_X12_readSum (h_readSum hw hbt (Cf.tt C hT) (Cf.rf C) (by omega)) rfl rfl rfl ⟨12, _, rfl, rfl, rfl⟩ rfl (fun v' h' hv => ?_)
    obtain ⟨rfl, J6, p6, rfl, hz6, hf6⟩ := hv
    rcases hr6 : sumP T e (nx T e b4) o4 with ⟨z6, b6, o6⟩
    rw [hr6] at hz6 hf6 g6
    cases z6 with
    | false =>
      refine a_if_ne rfl (fun z => absurd rfl z) (fun _ => ?_)
      refine a_s rfl rfl ?_
      rw [cmpP_f hr6]
      exact a_zret rfl rfl rfl (Cf.no C (hf6 rfl).1 (hf6 rfl).2)
    | true =>
      refine a_if_ne rfl (fun _ => ?_) (fun z => absurd (show (1 : Int32) = 0 from z) (by decide))
      rw [cmpP_t hr6]
      have C6 : Cf T e n0 b6 o6 I J6 p6 := Cf.cc C (hz6 rfl)
      have c6e := Cf.le C6
      obtain ⟨-, -, g6⟩ := g6
      have g6 : nx T e b4 < b6 ∧ o6.length + nx T e b4 ≤ o4.length + b6 := g6 rfl
      refine a_l0 rfl rfl rfl ?_
      refine a_l1 rfl rfl rfl ?_
      cases z5 with
      | false =>
        rw [if_neg (by decide)] at hx
        subst hx
        refine a_if_eq rfl (fun _ => ?_) (fun c => absurd rfl c)
        refine a_s rfl rfl ?_
        refine a_s rfl rfl ?_
        refine a_eV0 rfl lX12_180 mo_X12_emits (r_X12_emits (Cf.st C6) (by omega)) rfl rfl rfl ⟨12, _, rfl, rfl, rfl⟩ rfl ?_
        refine a_s rfl rfl ?_
        exact a_zret rfl rfl rfl (QF.yes (Cf.em (z := 2002) C6 (by decide) (by decide)))
      | true =>
        rw [if_pos rfl] at hx
        subst hx
        refine a_if_eq rfl (fun c => absurd c (by decide)) (fun _ => ?_)
        refine a_s rfl rfl ?_
        refine a_goto rfl ?_
        refine a_s rfl rfl ?_
        refine a_eV0 rfl lX12_180 mo_X12_emits (r_X12_emits (Cf.st C6) (by omega)) rfl rfl rfl ⟨12, _, rfl, rfl, rfl⟩ rfl ?_
        refine a_s rfl rfl ?_
        exact a_zret rfl rfl rfl (QF.yes (Cf.em (z := 2001) C6 (by decide) (by decide)))
  have eT4 := Cf.tt C4 hT
  refine a_l0 rfl rfl rfl ?_
  refine a_s rfl rfl ?_
  refine a_gV rfl lX12_187 mo_X12_sign (h_sign (b := b4) (c := 60) (by rw [eT4]; exact hbt) (by decide) (Cf.pp C4) (by rw [eT4]; exact Cf.nb C4)) rfl rfl rfl ⟨12, _, rfl, rfl, rfl⟩ rfl (fun v' h' hv => ?_)
  obtain ⟨rfl, J5, rfl, h5⟩ := hv
  rw [eT4] at h5 ⊢
  refine a_s1 rfl rfl rfl rfl rfl rfl ?_
  refine a_l1 rfl rfl rfl ?_
  cases c60 : sg T e b4 (nI 60) with
  | true =>
    have c60 : sg T e b4 60 = true := c60
    refine a_if_ne rfl (fun _ => ?_) (fun z => absurd (show (1 : Int32) = 0 from z) (by decide))
    rw [if_pos (show sg T e b4 (nI 60) = true from c60)] at h5
    rw [if_pos c60]
    exact key (z5 := true) (nx_lt (sg_lt c60)) rfl (Cf.rd C4 h5 rfl)
  | false =>
  have c60 : sg T e b4 60 = false := c60
  refine a_if_ne rfl (fun z => absurd rfl z) (fun _ => ?_)
  rw [if_neg (by rw [show sg T e b4 (nI 60) = false from c60]; decide)] at h5
  rw [if_neg (by rw [c60]; decide)]
  have C5 : Cf T e n0 b4 o4 I J5 b4 := Cf.rd C4 h5 (Cf.sk C4)
  have eT5 := Cf.tt C5 hT
  refine a_l0 rfl rfl rfl ?_
  refine a_s rfl rfl ?_
  refine a_gV rfl lX12_187 mo_X12_sign (h_sign (b := b4) (c := 62) (by rw [eT5]; exact hbt) (by decide) (Cf.pp C5) (by rw [eT5]; exact Cf.nb C5)) rfl rfl rfl ⟨12, _, rfl, rfl, rfl⟩ rfl (fun v' h' hv => ?_)
  obtain ⟨rfl, J7, rfl, h7⟩ := hv
  rw [eT5] at h7 ⊢
  cases c62 : sg T e b4 (nI 62) with
  | false =>
    have c62 : sg T e b4 62 = false := c62
    refine a_if_eq rfl (fun _ => ?_) (fun z => absurd rfl z)
    rw [if_neg (by rw [show sg T e b4 (nI 62) = false from c62]; decide)] at h7
    rw [if_neg (by rw [c62]; decide)]
    refine a_s rfl rfl ?_
    exact a_zret rfl rfl rfl (QF.no (Fm.tr C5.1 (Fm.mo (Rd.fm h7) sR_sY)) (Rd.be h7))
  | true =>
    have c62 : sg T e b4 62 = true := c62
    refine a_if_eq rfl (fun z => absurd z (by decide)) (fun _ => ?_)
    rw [if_pos (show sg T e b4 (nI 62) = true from c62)] at h7
    rw [if_pos c62]
    exact key (z5 := false) (nx_lt (sg_lt c62)) rfl (Cf.rd C5 h7 rfl)
theorem h_readAllOf_4 (hw : WdS S) (hbt : BtT T) (hT : I 426 = T) (hd : I 420 13 = nI 4) (h : Cf T e n0 b o I I p) (hB : o.length < b) : Sp S m_X12_readAllOf 27 0 0 [.ref 420] (hp I L w1 w2 t) (QF T e n0 (seqP T e (atomR T e 2) 20 2004 b o) I L w1 w2 t) nX := by
  have he4 := Cf.e4 h
  have g0 := atomR_gdo (T := T) (D := 2) (o := o) (Cf.le h)
  refine Sp_of ok_X12_readAllOf rfl rfl ?_
  show AW S m_X12_readAllOf 27 _ _ 0 0 0 [some (.ref 420)] [] (hp I L w1 w2 t)
  refine a_l0 rfl rfl rfl ?_
  refine a_gV rfl lX12_202 mo_X12_readAtom (h_readAtom_4 hw hbt hT hd h hB) rfl rfl rfl ⟨12, _, rfl, rfl, rfl⟩ rfl (fun v' h' hv => ?_)
  obtain ⟨rfl, J1, p1, rfl, hz1, hf1⟩ := hv
  rcases hr : (atomR T e 2) b o with ⟨z, b1, o1⟩
  rw [seqP_of hr]
  rw [hr] at hz1 hf1 g0
  cases z with
  | false =>
    refine a_if_ne rfl (fun z => absurd rfl z) (fun _ => ?_)
    refine a_s rfl rfl ?_
    rw [if_neg (by decide)]
    exact a_zret rfl rfl rfl (QF.no (hf1 rfl).1 (hf1 rfl).2)
  | true =>
  refine a_if_ne rfl (fun _ => ?_) (fun z => absurd (show (1 : Int32) = 0 from z) (by decide))
  rw [if_pos rfl]
  obtain ⟨-, -, g3⟩ := g0
  have g3 : b < b1 ∧ o1.length + b ≤ o.length + b1 := g3 rfl
  generalize hR : loopP T e (atomR T e 2) 20 2004 b1 o1 = R
  refine a_inv (n := e - b1) (fun m ls h => ls = [some (.ref 420)] ∧ ∃ J p' b' o', h = hp J L w1 w2 t ∧ Cf T e n0 b' o' I J p' ∧ o'.length < b' ∧ loopP T e (atomR T e 2) 20 2004 b' o' = R ∧ m = e - b') ⟨rfl, J1, p1, _, _, rfl, hz1 rfl, by show o1.length < b1; omega, hR, rfl⟩ ?_
  rintro m _ _ ⟨rfl, J, p', b', o', rfl, C, hB', es, hm⟩ ih
  have eT := Cf.tt C hT
  refine a_l0 rfl rfl rfl ?_
  refine a_ldcs (q := 130 + 20) rfl (hw.ld (i := 20) (by decide)) ?_
  refine a_gV rfl lX12_128 mo_X12_passes (h_passes (b := b') (k := 20) hw (by decide) (Cf.pp C) (by rw [eT]; exact Cf.nb C)) rfl rfl rfl ⟨12, _, rfl, rfl, rfl⟩ rfl (fun v' h' hv => ?_)
  obtain ⟨rfl, J2, rfl, h2⟩ := hv
  rw [eT] at h2 ⊢
  cases cw : isWd T e b' 20 with
  | false =>
    refine a_if_eq rfl (fun _ => ?_) (fun z => absurd rfl z)
    rw [if_neg (by rw [cw]; decide)] at h2
    refine a_s rfl rfl ?_
    rw [← es, loopP_f cw]
    exact a_zret rfl rfl rfl (QF.yes (Cf.rd C h2 (Cf.sk C)))
  | true =>
    refine a_if_eq rfl (fun z => absurd z (by decide)) (fun _ => ?_)
    rw [if_pos cw] at h2
    have n2 := nx_lt (T := T) (isWd_lt cw)
    have C2 : Cf T e n0 (nx T e b') o' I J2 (en T e b') := Cf.rd C h2 rfl
    have n2e := Cf.le C2
    have g4 := atomR_gdo (T := T) (D := 2) (o := o') n2e
    refine a_l0 rfl rfl rfl ?_
    refine a_gV rfl lX12_202 mo_X12_readAtom (h_readAtom_4 hw hbt (Cf.tt C2 hT) (Cf.d C2 hd) (Cf.rf C2) (by omega)) rfl rfl rfl ⟨12, _, rfl, rfl, rfl⟩ rfl (fun v' h' hv => ?_)
    obtain ⟨rfl, J3, p3, rfl, hz3, hf3⟩ := hv
    have el := fun g => loopP_t (op := 2004) (o := o') (item := atomR T e 2) cw g
    have en' := loopP_n (op := 2004) (o := o') (item := atomR T e 2) cw
    rcases hr2 : (atomR T e 2) (nx T e b') o' with ⟨z2, b2, o2⟩
    rw [hr2] at hz3 hf3 g4 el en'
    cases z2 with
    | false =>
      refine a_if_ne rfl (fun z => absurd rfl z) (fun _ => ?_)
      refine a_s rfl rfl ?_
      rw [← es, en' Bool.false_ne_true]
      exact a_zret rfl rfl rfl (Cf.no C2 (hf3 rfl).1 (hf3 rfl).2)
    | true =>
      refine a_if_ne rfl (fun _ => ?_) (fun z => absurd (show (1 : Int32) = 0 from z) (by decide))
      have C3 : Cf T e n0 b2 o2 I J3 p3 := Cf.cc C2 (hz3 rfl)
      have c3e := Cf.le C3
      obtain ⟨-, -, g5⟩ := g4
      have g5 : nx T e b' < b2 ∧ o2.length + nx T e b' ≤ o'.length + b2 := g5 rfl
      have es2 : loopP T e (atomR T e 2) 20 2004 b2 (2004 :: o2) = R := (el (by show b' < b2; omega) rfl).symm.trans es
      refine a_l0 rfl rfl rfl ?_
      refine a_s rfl rfl ?_
      refine a_s rfl rfl ?_
      refine a_eV0 rfl lX12_180 mo_X12_emits (r_X12_emits (Cf.st C3) (by omega)) rfl rfl rfl ⟨12, _, rfl, rfl, rfl⟩ rfl ?_
      refine a_goto rfl ?_
      exact ih (e - b2) _ _ (by omega) ⟨rfl, _, p3, b2, _, rfl, Cf.em (z := 2004) C3 (by decide) (by decide), by show o2.length + 1 < b2; omega, es2, rfl⟩
theorem h_readCond_4 (hw : WdS S) (hbt : BtT T) (hT : I 426 = T) (hd : I 420 13 = nI 4) (h : Cf T e n0 b o I I p) (hB : o.length < b) : Sp S m_X12_readCond 28 0 0 [.ref 420] (hp I L w1 w2 t) (QF T e n0 (seqP T e (seqP T e (atomR T e 2) 20 2004) 19 2005 b o) I L w1 w2 t) nX := by
  have he4 := Cf.e4 h
  have g0 := seqA_gd (T := T) (D := 2) (o := o) (Cf.le h)
  refine Sp_of ok_X12_readCond rfl rfl ?_
  show AW S m_X12_readCond 28 _ _ 0 0 0 [some (.ref 420)] [] (hp I L w1 w2 t)
  refine a_l0 rfl rfl rfl ?_
  refine a_gV rfl lX12_213 mo_X12_readAllOf (h_readAllOf_4 hw hbt hT hd h hB) rfl rfl rfl ⟨12, _, rfl, rfl, rfl⟩ rfl (fun v' h' hv => ?_)
  obtain ⟨rfl, J1, p1, rfl, hz1, hf1⟩ := hv
  rcases hr : (seqP T e (atomR T e 2) 20 2004) b o with ⟨z, b1, o1⟩
  rw [seqP_of hr]
  rw [hr] at hz1 hf1 g0
  cases z with
  | false =>
    refine a_if_ne rfl (fun z => absurd rfl z) (fun _ => ?_)
    refine a_s rfl rfl ?_
    rw [if_neg (by decide)]
    exact a_zret rfl rfl rfl (QF.no (hf1 rfl).1 (hf1 rfl).2)
  | true =>
  refine a_if_ne rfl (fun _ => ?_) (fun z => absurd (show (1 : Int32) = 0 from z) (by decide))
  rw [if_pos rfl]
  obtain ⟨-, -, g3⟩ := g0
  have g3 : b < b1 ∧ o1.length + b ≤ o.length + b1 := g3 rfl
  generalize hR : loopP T e (seqP T e (atomR T e 2) 20 2004) 19 2005 b1 o1 = R
  refine a_inv (n := e - b1) (fun m ls h => ls = [some (.ref 420)] ∧ ∃ J p' b' o', h = hp J L w1 w2 t ∧ Cf T e n0 b' o' I J p' ∧ o'.length < b' ∧ loopP T e (seqP T e (atomR T e 2) 20 2004) 19 2005 b' o' = R ∧ m = e - b') ⟨rfl, J1, p1, _, _, rfl, hz1 rfl, by show o1.length < b1; omega, hR, rfl⟩ ?_
  rintro m _ _ ⟨rfl, J, p', b', o', rfl, C, hB', es, hm⟩ ih
  have eT := Cf.tt C hT
  refine a_l0 rfl rfl rfl ?_
  refine a_ldcs (q := 130 + 19) rfl (hw.ld (i := 19) (by decide)) ?_
  refine a_gV rfl lX12_128 mo_X12_passes (h_passes (b := b') (k := 19) hw (by decide) (Cf.pp C) (by rw [eT]; exact Cf.nb C)) rfl rfl rfl ⟨12, _, rfl, rfl, rfl⟩ rfl (fun v' h' hv => ?_)
  obtain ⟨rfl, J2, rfl, h2⟩ := hv
  rw [eT] at h2 ⊢
  cases cw : isWd T e b' 19 with
  | false =>
    refine a_if_eq rfl (fun _ => ?_) (fun z => absurd rfl z)
    rw [if_neg (by rw [cw]; decide)] at h2
    refine a_s rfl rfl ?_
    rw [← es, loopP_f cw]
    exact a_zret rfl rfl rfl (QF.yes (Cf.rd C h2 (Cf.sk C)))
  | true =>
    refine a_if_eq rfl (fun z => absurd z (by decide)) (fun _ => ?_)
    rw [if_pos cw] at h2
    have n2 := nx_lt (T := T) (isWd_lt cw)
    have C2 : Cf T e n0 (nx T e b') o' I J2 (en T e b') := Cf.rd C h2 rfl
    have n2e := Cf.le C2
    have g4 := seqA_gd (T := T) (D := 2) (o := o') n2e
    refine a_l0 rfl rfl rfl ?_
    refine a_gV rfl lX12_213 mo_X12_readAllOf (h_readAllOf_4 hw hbt (Cf.tt C2 hT) (Cf.d C2 hd) (Cf.rf C2) (by omega)) rfl rfl rfl ⟨12, _, rfl, rfl, rfl⟩ rfl (fun v' h' hv => ?_)
    obtain ⟨rfl, J3, p3, rfl, hz3, hf3⟩ := hv
    have el := fun g => loopP_t (op := 2005) (o := o') (item := seqP T e (atomR T e 2) 20 2004) cw g
    have en' := loopP_n (op := 2005) (o := o') (item := seqP T e (atomR T e 2) 20 2004) cw
    rcases hr2 : (seqP T e (atomR T e 2) 20 2004) (nx T e b') o' with ⟨z2, b2, o2⟩
    rw [hr2] at hz3 hf3 g4 el en'
    cases z2 with
    | false =>
      refine a_if_ne rfl (fun z => absurd rfl z) (fun _ => ?_)
      refine a_s rfl rfl ?_
      rw [← es, en' Bool.false_ne_true]
      exact a_zret rfl rfl rfl (Cf.no C2 (hf3 rfl).1 (hf3 rfl).2)
    | true =>
      refine a_if_ne rfl (fun _ => ?_) (fun z => absurd (show (1 : Int32) = 0 from z) (by decide))
      have C3 : Cf T e n0 b2 o2 I J3 p3 := Cf.cc C2 (hz3 rfl)
      have c3e := Cf.le C3
      obtain ⟨-, -, g5⟩ := g4
      have g5 : nx T e b' < b2 ∧ o2.length + nx T e b' ≤ o'.length + b2 := g5 rfl
      have es2 : loopP T e (seqP T e (atomR T e 2) 20 2004) 19 2005 b2 (2005 :: o2) = R := (el (by show b' < b2; omega) rfl).symm.trans es
      refine a_l0 rfl rfl rfl ?_
      refine a_s rfl rfl ?_
      refine a_s rfl rfl ?_
      refine a_eV0 rfl lX12_180 mo_X12_emits (r_X12_emits (Cf.st C3) (by omega)) rfl rfl rfl ⟨12, _, rfl, rfl, rfl⟩ rfl ?_
      refine a_goto rfl ?_
      exact ih (e - b2) _ _ (by omega) ⟨rfl, _, p3, b2, _, rfl, Cf.em (z := 2005) C3 (by decide) (by decide), by show o2.length + 1 < b2; omega, es2, rfl⟩
theorem h_readAtom_3 (hw : WdS S) (hbt : BtT T) (hT : I 426 = T) (hd : I 420 13 = nI 3) (h : Cf T e n0 b o I I p) (hB : o.length < b) : Sp S m_X12_readAtom 29 0 0 [.ref 420] (hp I L w1 w2 t) (QF T e n0 (atomR T e 3 b o) I L w1 w2 t) nX := by
  have he4 := Cf.e4 h
  have hbe := Cf.le h
  refine Sp_of ok_X12_readAtom rfl rfl ?_
  show AW S m_X12_readAtom 29 _ _ 0 0 0 [some (.ref 420), none] [] (hp I L w1 w2 t)
  refine a_l0 rfl rfl rfl ?_
  refine a_s rfl rfl ?_
  refine a_gV rfl lX12_187 mo_X12_sign (h_sign (b := b) (c := 40) (by rw [hT]; exact hbt) (by decide) (Cf.pp h) (by rw [hT]; exact Cf.nb h)) rfl rfl rfl ⟨12, _, rfl, rfl, rfl⟩ rfl (fun v' h' hv => ?_)
  obtain ⟨rfl, J1, rfl, h1⟩ := hv
  rw [hT] at h1 ⊢
  cases c40 : sg T e b (nI 40) with
  | true =>
    have c40 : sg T e b 40 = true := c40
    refine a_if_eq rfl (fun z => absurd z (by decide)) (fun _ => ?_)
    rw [if_pos (show sg T e b (nI 40) = true from c40)] at h1
    have n1 := nx_lt (T := T) (sg_lt c40)
    have C1 : Cf T e n0 (nx T e b) o I J1 (en T e b) := Cf.rd h h1 rfl
    refine a_l0 rfl rfl rfl ?_
    refine a_geti rfl gfX12_194_12 rfl ?_
    refine a_top (y := nI 3) (Cf.d C1 hd) ?_
    refine a_s rfl rfl ?_
    refine a_ic_ne rfl (fun _ => ?_) (fun c => absurd c (by decide))
    refine a_l0 rfl rfl rfl ?_
    refine a_s rfl rfl ?_
    refine a_geti rfl gfX12_194_12 rfl ?_
    refine a_top (y := nI 3) (Cf.d C1 hd) ?_
    refine a_s rfl rfl ?_
    refine a_s rfl rfl ?_
    refine a_top (y := nI 4) (rfl) ?_
    refine a_puti rfl pfX12_194_12 rfl ?_
    refine a_l0 rfl rfl rfl ?_
    have g4 := cndP_gd (T := T) (fun b o h => atomR_gd (T := T) 2 b o h) (o := o) (Cf.le C1)
    refine a_gV rfl lX12_197 mo_X12_readCond (h_readCond_4 hw hbt ((up2_row (by decide)).trans (Cf.tt C1 hT)) up2_at (Cf.up13 C1) (by omega)) rfl rfl rfl ⟨12, _, rfl, rfl, rfl⟩ rfl (fun v' h' hv => ?_)
    obtain ⟨rfl, J9, p9, rfl, hz9, hf9⟩ := hv
    rw [show seqP T e (seqP T e (atomR T e 2) 20 2004) 19 2005 = cndP T e (atomR T e 2) from rfl] at hz9 hf9 ⊢
    rcases hr9 : cndP T e (atomR T e 2) (nx T e b) o with ⟨z9, b9, o9⟩
    rw [hr9] at hz9 hf9 g4
    rw [atomR_p c40 hr9]
    cases z9 with
    | false =>
      refine a_if_ne rfl (fun z => absurd rfl z) (fun _ => ?_)
      refine a_s rfl rfl ?_
      rw [if_neg (by decide)]
      exact a_zret rfl rfl rfl (QF.no (Fm.tr C1.1 (Fm.tr (Fm.up Fm.rf rfl) (hf9 rfl).1)) (hf9 rfl).2)
    | true =>
      refine a_if_ne rfl (fun _ => ?_) (fun z => absurd (show (1 : Int32) = 0 from z) (by decide))
      rw [if_pos rfl]
      have D9 : Cf T e n0 b9 o9 (up2 J1 420 13 (nI 4)) J9 p9 := hz9 rfl
      refine a_l0 rfl rfl rfl ?_
      refine a_s rfl rfl ?_
      refine a_geti rfl gfX12_194_12 rfl ?_
      refine a_top (y := nI 4) (D9.2.1.trans up2_at) ?_
      refine a_s rfl rfl ?_
      refine a_s rfl rfl ?_
      refine a_top (y := nI 3) (rfl) ?_
      refine a_puti rfl pfX12_194_12 rfl ?_
      have C9 := Cf.deep C1 hd D9
      have eT9 := Cf.tt C9 hT
      refine a_l0 rfl rfl rfl ?_
      refine a_s rfl rfl ?_
      refine a_gV rfl lX12_187 mo_X12_sign (h_sign (b := b9) (c := 41) (by rw [eT9]; exact hbt) (by decide) (Cf.pp C9) (by rw [eT9]; exact Cf.nb C9)) rfl rfl rfl ⟨12, _, rfl, rfl, rfl⟩ rfl (fun v' h' hv => ?_)
      obtain ⟨rfl, J3, rfl, h3⟩ := hv
      rw [eT9] at h3 ⊢
      cases c41 : sg T e b9 (nI 41) with
      | false =>
        have c41 : sg T e b9 41 = false := c41
        rw [if_neg (by rw [show sg T e b9 (nI 41) = false from c41]; decide)] at h3
        rw [if_neg (by rw [c41]; decide)]
        exact a_zret rfl rfl rfl (QF.no (Fm.tr C9.1 (Fm.mo (Rd.fm h3) sR_sY)) (Rd.be h3))
      | true =>
        have c41 : sg T e b9 41 = true := c41
        rw [if_pos (show sg T e b9 (nI 41) = true from c41)] at h3
        rw [if_pos c41]
        exact a_zret rfl rfl rfl (QF.yes (Cf.rd C9 h3 rfl))
  | false =>
  have c40 : sg T e b 40 = false := c40
  refine a_if_eq rfl (fun _ => ?_) (fun z => absurd rfl z)
  rw [if_neg (by rw [show sg T e b (nI 40) = false from c40]; decide)] at h1
  have C0 : Cf T e n0 b o I J1 b := Cf.rd h h1 (Cf.sk h)
  have eT0 := Cf.tt C0 hT
  refine a_l0 rfl rfl rfl ?_
  refine a_ldcs (q := 130 + 21) rfl (hw.ld (i := 21) (by decide)) ?_
  refine a_gV rfl lX12_128 mo_X12_passes (h_passes (b := b) (k := 21) hw (by decide) (Cf.pp C0) (by rw [eT0]; exact Cf.nb C0)) rfl rfl rfl ⟨12, _, rfl, rfl, rfl⟩ rfl (fun v' h' hv => ?_)
  obtain ⟨rfl, J2, rfl, h2⟩ := hv
  rw [eT0] at h2 ⊢
  cases c21 : isWd T e b 21 with
  | true =>
    refine a_if_eq rfl (fun z => absurd z (by decide)) (fun _ => ?_)
    rw [if_pos c21] at h2
    have n1 := nx_lt (T := T) (isWd_lt c21)
    have C2 : Cf T e n0 (nx T e b) o I J2 (en T e b) := Cf.rd C0 h2 rfl
    refine a_l0 rfl rfl rfl ?_
    refine a_geti rfl gfX12_194_12 rfl ?_
    refine a_top (y := nI 3) (Cf.d C2 hd) ?_
    refine a_s rfl rfl ?_
    refine a_ic_ne rfl (fun _ => ?_) (fun c => absurd c (by decide))
    refine a_l0 rfl rfl rfl ?_
    refine a_s rfl rfl ?_
    refine a_geti rfl gfX12_194_12 rfl ?_
    refine a_top (y := nI 3) (Cf.d C2 hd) ?_
    refine a_s rfl rfl ?_
    refine a_s rfl rfl ?_
    refine a_top (y := nI 4) (rfl) ?_
    refine a_puti rfl pfX12_194_12 rfl ?_
    refine a_l0 rfl rfl rfl ?_
    have g4 := atomR_gdo (T := T) (D := 2) (o := o) (Cf.le C2)
    refine a_gV rfl lX12_202 mo_X12_readAtom (h_readAtom_4 hw hbt ((up2_row (by decide)).trans (Cf.tt C2 hT)) up2_at (Cf.up13 C2) (by omega)) rfl rfl rfl ⟨12, _, rfl, rfl, rfl⟩ rfl (fun v' h' hv => ?_)
    obtain ⟨rfl, J9, p9, rfl, hz9, hf9⟩ := hv
    rcases hr9 : atomR T e 2 (nx T e b) o with ⟨z9, b9, o9⟩
    rw [hr9] at hz9 hf9 g4
    rw [atomR_n c40 c21 hr9]
    cases z9 with
    | false =>
      refine a_if_ne rfl (fun z => absurd rfl z) (fun _ => ?_)
      refine a_s rfl rfl ?_
      rw [if_neg (by decide)]
      exact a_zret rfl rfl rfl (QF.no (Fm.tr C2.1 (Fm.tr (Fm.up Fm.rf rfl) (hf9 rfl).1)) (hf9 rfl).2)
    | true =>
      refine a_if_ne rfl (fun _ => ?_) (fun z => absurd (show (1 : Int32) = 0 from z) (by decide))
      rw [if_pos rfl]
      have D9 : Cf T e n0 b9 o9 (up2 J2 420 13 (nI 4)) J9 p9 := hz9 rfl
      obtain ⟨-, -, g5⟩ := g4
      have g5 : nx T e b < b9 ∧ o9.length + nx T e b ≤ o.length + b9 := g5 rfl
      have c9e := Cf.le D9
      refine a_l0 rfl rfl rfl ?_
      refine a_s rfl rfl ?_
      refine a_geti rfl gfX12_194_12 rfl ?_
      refine a_top (y := nI 4) (D9.2.1.trans up2_at) ?_
      refine a_s rfl rfl ?_
      refine a_s rfl rfl ?_
      refine a_top (y := nI 3) (rfl) ?_
      refine a_puti rfl pfX12_194_12 rfl ?_
      have C9 := Cf.deep C2 hd D9
      refine a_l0 rfl rfl rfl ?_
      refine a_s rfl rfl ?_
      refine a_s rfl rfl ?_
      refine a_eV0 rfl lX12_180 mo_X12_emits (r_X12_emits (Cf.st C9) (by omega)) rfl rfl rfl ⟨12, _, rfl, rfl, rfl⟩ rfl ?_
      refine a_s rfl rfl ?_
      exact a_zret rfl rfl rfl (QF.yes (Cf.em (z := 2003) C9 (by decide) (by decide)))
  | false =>
  refine a_if_eq rfl (fun _ => ?_) (fun z => absurd rfl z)
  rw [if_neg (by rw [c21]; decide)] at h2
  have C2 : Cf T e n0 b o I J2 b := Cf.rd C0 h2 (Cf.sk C0)
  rw [atomR_b c40 c21]
  refine a_l0 rfl rfl rfl ?_
  refine a_gV rfl lX12_205 mo_X12_readTag (h_readTag hw (Cf.tt C2 hT) (Cf.rf C2) hB) rfl rfl rfl ⟨12, _, rfl, rfl, rfl⟩ rfl (fun v' h' hv => ?_)
  obtain ⟨z3, x3, J3, p3, rfl, rfl, ht3, hf3⟩ := hv
  cases z3 with
  | true =>
    refine a_if_eq rfl (fun z => absurd z (by decide)) (fun _ => ?_)
    refine a_s rfl rfl ?_
    obtain ⟨hx, D3⟩ := ht3 rfl
    rcases hx with ⟨c22, rfl⟩ | ⟨c22, c23, rfl⟩
    · rw [show baseP T e b o = (true, nx T e b, 1007 :: o) from if_pos c22]
      exact a_zret rfl rfl rfl (QF.yes (Cf.cc C2 D3))
    · rw [show baseP T e b o = (true, nx T e b, 1008 :: o) from (if_neg (by rw [c22]; decide)).trans (if_pos c23)]
      exact a_zret rfl rfl rfl (QF.yes (Cf.cc C2 D3))
  | false =>
  refine a_if_eq rfl (fun _ => ?_) (fun z => absurd rfl z)
  obtain ⟨⟨c22, c23⟩, D3⟩ := hf3 rfl
  have C3 := Cf.cc C2 D3
  have g4 := sumP_gd (T := T) (o := o) hbe
  refine a_l0 rfl rfl rfl ?_
  refine a_gV rfl lX12_208 mo_X12_readSum (h_readSum hw hbt (Cf.tt C3 hT) (Cf.rf C3) hB) rfl rfl rfl ⟨12, _, rfl, rfl, rfl⟩ rfl (fun v' h' hv => ?_)
  obtain ⟨rfl, J4, p4, rfl, hz4, hf4⟩ := hv
  rcases hr4 : sumP T e b o with ⟨z4, b4, o4⟩
  rw [baseP_s c22 c23 hr4]
  rw [hr4] at hz4 hf4 g4
  cases z4 with
  | false =>
    refine a_if_ne rfl (fun z => absurd rfl z) (fun _ => ?_)
    refine a_s rfl rfl ?_
    rw [if_neg (by decide)]
    exact a_zret rfl rfl rfl (Cf.no C3 (hf4 rfl).1 (hf4 rfl).2)
  | true =>
  refine a_if_ne rfl (fun _ => ?_) (fun z => absurd (show (1 : Int32) = 0 from z) (by decide))
  rw [if_pos rfl]
  have C4 : Cf T e n0 b4 o4 I J4 p4 := Cf.cc C3 (hz4 rfl)
  obtain ⟨-, -, g4⟩ := g4
  have g4 : b < b4 ∧ o4.length + b ≤ o.length + b4 := g4 rfl
  have key : ∀ {z5 : Bool} {x : Int32} {p' : Nat} {J : Nat → Nat → Int32}, b4 < nx T e b4 → x = (if z5 = true then 2001 else 2002) → Cf T e n0 (nx T e b4) o4 I J p' → AW S m_X12_readAtom 29 (QF T e n0 (cmpP T e x (nx T e b4) o4) I L w1 w2 t) nX 0 0 152 [some (.ref 420), some (.int (bI z5))] [] (hp J L w1 w2 t) := by
    intro z5 x p' J n4 hx C
    have g6 := sumP_gd (T := T) (o := o4) (Cf.le C)
    refine a_l0 rfl rfl rfl ?_
    refine a_gV rfl lX12_208 mo_X12_readSum (h_readSum hw hbt (Cf.tt C hT) (Cf.rf C) (by omega)) rfl rfl rfl ⟨12, _, rfl, rfl, rfl⟩ rfl (fun v' h' hv => ?_)
    obtain ⟨rfl, J6, p6, rfl, hz6, hf6⟩ := hv
    rcases hr6 : sumP T e (nx T e b4) o4 with ⟨z6, b6, o6⟩
    rw [hr6] at hz6 hf6 g6
    cases z6 with
    | false =>
      refine a_if_ne rfl (fun z => absurd rfl z) (fun _ => ?_)
      refine a_s rfl rfl ?_
      rw [cmpP_f hr6]
      exact a_zret rfl rfl rfl (Cf.no C (hf6 rfl).1 (hf6 rfl).2)
    | true =>
      refine a_if_ne rfl (fun _ => ?_) (fun z => absurd (show (1 : Int32) = 0 from z) (by decide))
      rw [cmpP_t hr6]
      have C6 : Cf T e n0 b6 o6 I J6 p6 := Cf.cc C (hz6 rfl)
      have c6e := Cf.le C6
      obtain ⟨-, -, g6⟩ := g6
      have g6 : nx T e b4 < b6 ∧ o6.length + nx T e b4 ≤ o4.length + b6 := g6 rfl
      refine a_l0 rfl rfl rfl ?_
      refine a_l1 rfl rfl rfl ?_
      cases z5 with
      | false =>
        rw [if_neg (by decide)] at hx
        subst hx
        refine a_if_eq rfl (fun _ => ?_) (fun c => absurd rfl c)
        refine a_s rfl rfl ?_
        refine a_s rfl rfl ?_
        refine a_eV0 rfl lX12_180 mo_X12_emits (r_X12_emits (Cf.st C6) (by omega)) rfl rfl rfl ⟨12, _, rfl, rfl, rfl⟩ rfl ?_
        refine a_s rfl rfl ?_
        exact a_zret rfl rfl rfl (QF.yes (Cf.em (z := 2002) C6 (by decide) (by decide)))
      | true =>
        rw [if_pos rfl] at hx
        subst hx
        refine a_if_eq rfl (fun c => absurd c (by decide)) (fun _ => ?_)
        refine a_s rfl rfl ?_
        refine a_goto rfl ?_
        refine a_s rfl rfl ?_
        refine a_eV0 rfl lX12_180 mo_X12_emits (r_X12_emits (Cf.st C6) (by omega)) rfl rfl rfl ⟨12, _, rfl, rfl, rfl⟩ rfl ?_
        refine a_s rfl rfl ?_
        exact a_zret rfl rfl rfl (QF.yes (Cf.em (z := 2001) C6 (by decide) (by decide)))
  have eT4 := Cf.tt C4 hT
  refine a_l0 rfl rfl rfl ?_
  refine a_s rfl rfl ?_
  refine a_gV rfl lX12_187 mo_X12_sign (h_sign (b := b4) (c := 60) (by rw [eT4]; exact hbt) (by decide) (Cf.pp C4) (by rw [eT4]; exact Cf.nb C4)) rfl rfl rfl ⟨12, _, rfl, rfl, rfl⟩ rfl (fun v' h' hv => ?_)
  obtain ⟨rfl, J5, rfl, h5⟩ := hv
  rw [eT4] at h5 ⊢
  refine a_s1 rfl rfl rfl rfl rfl rfl ?_
  refine a_l1 rfl rfl rfl ?_
  cases c60 : sg T e b4 (nI 60) with
  | true =>
    have c60 : sg T e b4 60 = true := c60
    refine a_if_ne rfl (fun _ => ?_) (fun z => absurd (show (1 : Int32) = 0 from z) (by decide))
    rw [if_pos (show sg T e b4 (nI 60) = true from c60)] at h5
    rw [if_pos c60]
    exact key (z5 := true) (nx_lt (sg_lt c60)) rfl (Cf.rd C4 h5 rfl)
  | false =>
  have c60 : sg T e b4 60 = false := c60
  refine a_if_ne rfl (fun z => absurd rfl z) (fun _ => ?_)
  rw [if_neg (by rw [show sg T e b4 (nI 60) = false from c60]; decide)] at h5
  rw [if_neg (by rw [c60]; decide)]
  have C5 : Cf T e n0 b4 o4 I J5 b4 := Cf.rd C4 h5 (Cf.sk C4)
  have eT5 := Cf.tt C5 hT
  refine a_l0 rfl rfl rfl ?_
  refine a_s rfl rfl ?_
  refine a_gV rfl lX12_187 mo_X12_sign (h_sign (b := b4) (c := 62) (by rw [eT5]; exact hbt) (by decide) (Cf.pp C5) (by rw [eT5]; exact Cf.nb C5)) rfl rfl rfl ⟨12, _, rfl, rfl, rfl⟩ rfl (fun v' h' hv => ?_)
  obtain ⟨rfl, J7, rfl, h7⟩ := hv
  rw [eT5] at h7 ⊢
  cases c62 : sg T e b4 (nI 62) with
  | false =>
    have c62 : sg T e b4 62 = false := c62
    refine a_if_eq rfl (fun _ => ?_) (fun z => absurd rfl z)
    rw [if_neg (by rw [show sg T e b4 (nI 62) = false from c62]; decide)] at h7
    rw [if_neg (by rw [c62]; decide)]
    refine a_s rfl rfl ?_
    exact a_zret rfl rfl rfl (QF.no (Fm.tr C5.1 (Fm.mo (Rd.fm h7) sR_sY)) (Rd.be h7))
  | true =>
    have c62 : sg T e b4 62 = true := c62
    refine a_if_eq rfl (fun z => absurd z (by decide)) (fun _ => ?_)
    rw [if_pos (show sg T e b4 (nI 62) = true from c62)] at h7
    rw [if_pos c62]
    exact key (z5 := false) (nx_lt (sg_lt c62)) rfl (Cf.rd C5 h7 rfl)
theorem h_readAllOf_3 (hw : WdS S) (hbt : BtT T) (hT : I 426 = T) (hd : I 420 13 = nI 3) (h : Cf T e n0 b o I I p) (hB : o.length < b) : Sp S m_X12_readAllOf 30 0 0 [.ref 420] (hp I L w1 w2 t) (QF T e n0 (seqP T e (atomR T e 3) 20 2004 b o) I L w1 w2 t) nX := by
  have he4 := Cf.e4 h
  have g0 := atomR_gdo (T := T) (D := 3) (o := o) (Cf.le h)
  refine Sp_of ok_X12_readAllOf rfl rfl ?_
  show AW S m_X12_readAllOf 30 _ _ 0 0 0 [some (.ref 420)] [] (hp I L w1 w2 t)
  refine a_l0 rfl rfl rfl ?_
  refine a_gV rfl lX12_202 mo_X12_readAtom (h_readAtom_3 hw hbt hT hd h hB) rfl rfl rfl ⟨12, _, rfl, rfl, rfl⟩ rfl (fun v' h' hv => ?_)
  obtain ⟨rfl, J1, p1, rfl, hz1, hf1⟩ := hv
  rcases hr : (atomR T e 3) b o with ⟨z, b1, o1⟩
  rw [seqP_of hr]
  rw [hr] at hz1 hf1 g0
  cases z with
  | false =>
    refine a_if_ne rfl (fun z => absurd rfl z) (fun _ => ?_)
    refine a_s rfl rfl ?_
    rw [if_neg (by decide)]
    exact a_zret rfl rfl rfl (QF.no (hf1 rfl).1 (hf1 rfl).2)
  | true =>
  refine a_if_ne rfl (fun _ => ?_) (fun z => absurd (show (1 : Int32) = 0 from z) (by decide))
  rw [if_pos rfl]
  obtain ⟨-, -, g3⟩ := g0
  have g3 : b < b1 ∧ o1.length + b ≤ o.length + b1 := g3 rfl
  generalize hR : loopP T e (atomR T e 3) 20 2004 b1 o1 = R
  refine a_inv (n := e - b1) (fun m ls h => ls = [some (.ref 420)] ∧ ∃ J p' b' o', h = hp J L w1 w2 t ∧ Cf T e n0 b' o' I J p' ∧ o'.length < b' ∧ loopP T e (atomR T e 3) 20 2004 b' o' = R ∧ m = e - b') ⟨rfl, J1, p1, _, _, rfl, hz1 rfl, by show o1.length < b1; omega, hR, rfl⟩ ?_
  rintro m _ _ ⟨rfl, J, p', b', o', rfl, C, hB', es, hm⟩ ih
  have eT := Cf.tt C hT
  refine a_l0 rfl rfl rfl ?_
  refine a_ldcs (q := 130 + 20) rfl (hw.ld (i := 20) (by decide)) ?_
  refine a_gV rfl lX12_128 mo_X12_passes (h_passes (b := b') (k := 20) hw (by decide) (Cf.pp C) (by rw [eT]; exact Cf.nb C)) rfl rfl rfl ⟨12, _, rfl, rfl, rfl⟩ rfl (fun v' h' hv => ?_)
  obtain ⟨rfl, J2, rfl, h2⟩ := hv
  rw [eT] at h2 ⊢
  cases cw : isWd T e b' 20 with
  | false =>
    refine a_if_eq rfl (fun _ => ?_) (fun z => absurd rfl z)
    rw [if_neg (by rw [cw]; decide)] at h2
    refine a_s rfl rfl ?_
    rw [← es, loopP_f cw]
    exact a_zret rfl rfl rfl (QF.yes (Cf.rd C h2 (Cf.sk C)))
  | true =>
    refine a_if_eq rfl (fun z => absurd z (by decide)) (fun _ => ?_)
    rw [if_pos cw] at h2
    have n2 := nx_lt (T := T) (isWd_lt cw)
    have C2 : Cf T e n0 (nx T e b') o' I J2 (en T e b') := Cf.rd C h2 rfl
    have n2e := Cf.le C2
    have g4 := atomR_gdo (T := T) (D := 3) (o := o') n2e
    refine a_l0 rfl rfl rfl ?_
    refine a_gV rfl lX12_202 mo_X12_readAtom (h_readAtom_3 hw hbt (Cf.tt C2 hT) (Cf.d C2 hd) (Cf.rf C2) (by omega)) rfl rfl rfl ⟨12, _, rfl, rfl, rfl⟩ rfl (fun v' h' hv => ?_)
    obtain ⟨rfl, J3, p3, rfl, hz3, hf3⟩ := hv
    have el := fun g => loopP_t (op := 2004) (o := o') (item := atomR T e 3) cw g
    have en' := loopP_n (op := 2004) (o := o') (item := atomR T e 3) cw
    rcases hr2 : (atomR T e 3) (nx T e b') o' with ⟨z2, b2, o2⟩
    rw [hr2] at hz3 hf3 g4 el en'
    cases z2 with
    | false =>
      refine a_if_ne rfl (fun z => absurd rfl z) (fun _ => ?_)
      refine a_s rfl rfl ?_
      rw [← es, en' Bool.false_ne_true]
      exact a_zret rfl rfl rfl (Cf.no C2 (hf3 rfl).1 (hf3 rfl).2)
    | true =>
      refine a_if_ne rfl (fun _ => ?_) (fun z => absurd (show (1 : Int32) = 0 from z) (by decide))
      have C3 : Cf T e n0 b2 o2 I J3 p3 := Cf.cc C2 (hz3 rfl)
      have c3e := Cf.le C3
      obtain ⟨-, -, g5⟩ := g4
      have g5 : nx T e b' < b2 ∧ o2.length + nx T e b' ≤ o'.length + b2 := g5 rfl
      have es2 : loopP T e (atomR T e 3) 20 2004 b2 (2004 :: o2) = R := (el (by show b' < b2; omega) rfl).symm.trans es
      refine a_l0 rfl rfl rfl ?_
      refine a_s rfl rfl ?_
      refine a_s rfl rfl ?_
      refine a_eV0 rfl lX12_180 mo_X12_emits (r_X12_emits (Cf.st C3) (by omega)) rfl rfl rfl ⟨12, _, rfl, rfl, rfl⟩ rfl ?_
      refine a_goto rfl ?_
      exact ih (e - b2) _ _ (by omega) ⟨rfl, _, p3, b2, _, rfl, Cf.em (z := 2004) C3 (by decide) (by decide), by show o2.length + 1 < b2; omega, es2, rfl⟩
theorem h_readCond_3 (hw : WdS S) (hbt : BtT T) (hT : I 426 = T) (hd : I 420 13 = nI 3) (h : Cf T e n0 b o I I p) (hB : o.length < b) : Sp S m_X12_readCond 31 0 0 [.ref 420] (hp I L w1 w2 t) (QF T e n0 (seqP T e (seqP T e (atomR T e 3) 20 2004) 19 2005 b o) I L w1 w2 t) nX := by
  have he4 := Cf.e4 h
  have g0 := seqA_gd (T := T) (D := 3) (o := o) (Cf.le h)
  refine Sp_of ok_X12_readCond rfl rfl ?_
  show AW S m_X12_readCond 31 _ _ 0 0 0 [some (.ref 420)] [] (hp I L w1 w2 t)
  refine a_l0 rfl rfl rfl ?_
  refine a_gV rfl lX12_213 mo_X12_readAllOf (h_readAllOf_3 hw hbt hT hd h hB) rfl rfl rfl ⟨12, _, rfl, rfl, rfl⟩ rfl (fun v' h' hv => ?_)
  obtain ⟨rfl, J1, p1, rfl, hz1, hf1⟩ := hv
  rcases hr : (seqP T e (atomR T e 3) 20 2004) b o with ⟨z, b1, o1⟩
  rw [seqP_of hr]
  rw [hr] at hz1 hf1 g0
  cases z with
  | false =>
    refine a_if_ne rfl (fun z => absurd rfl z) (fun _ => ?_)
    refine a_s rfl rfl ?_
    rw [if_neg (by decide)]
    exact a_zret rfl rfl rfl (QF.no (hf1 rfl).1 (hf1 rfl).2)
  | true =>
  refine a_if_ne rfl (fun _ => ?_) (fun z => absurd (show (1 : Int32) = 0 from z) (by decide))
  rw [if_pos rfl]
  obtain ⟨-, -, g3⟩ := g0
  have g3 : b < b1 ∧ o1.length + b ≤ o.length + b1 := g3 rfl
  generalize hR : loopP T e (seqP T e (atomR T e 3) 20 2004) 19 2005 b1 o1 = R
  refine a_inv (n := e - b1) (fun m ls h => ls = [some (.ref 420)] ∧ ∃ J p' b' o', h = hp J L w1 w2 t ∧ Cf T e n0 b' o' I J p' ∧ o'.length < b' ∧ loopP T e (seqP T e (atomR T e 3) 20 2004) 19 2005 b' o' = R ∧ m = e - b') ⟨rfl, J1, p1, _, _, rfl, hz1 rfl, by show o1.length < b1; omega, hR, rfl⟩ ?_
  rintro m _ _ ⟨rfl, J, p', b', o', rfl, C, hB', es, hm⟩ ih
  have eT := Cf.tt C hT
  refine a_l0 rfl rfl rfl ?_
  refine a_ldcs (q := 130 + 19) rfl (hw.ld (i := 19) (by decide)) ?_
  refine a_gV rfl lX12_128 mo_X12_passes (h_passes (b := b') (k := 19) hw (by decide) (Cf.pp C) (by rw [eT]; exact Cf.nb C)) rfl rfl rfl ⟨12, _, rfl, rfl, rfl⟩ rfl (fun v' h' hv => ?_)
  obtain ⟨rfl, J2, rfl, h2⟩ := hv
  rw [eT] at h2 ⊢
  cases cw : isWd T e b' 19 with
  | false =>
    refine a_if_eq rfl (fun _ => ?_) (fun z => absurd rfl z)
    rw [if_neg (by rw [cw]; decide)] at h2
    refine a_s rfl rfl ?_
    rw [← es, loopP_f cw]
    exact a_zret rfl rfl rfl (QF.yes (Cf.rd C h2 (Cf.sk C)))
  | true =>
    refine a_if_eq rfl (fun z => absurd z (by decide)) (fun _ => ?_)
    rw [if_pos cw] at h2
    have n2 := nx_lt (T := T) (isWd_lt cw)
    have C2 : Cf T e n0 (nx T e b') o' I J2 (en T e b') := Cf.rd C h2 rfl
    have n2e := Cf.le C2
    have g4 := seqA_gd (T := T) (D := 3) (o := o') n2e
    refine a_l0 rfl rfl rfl ?_
    refine a_gV rfl lX12_213 mo_X12_readAllOf (h_readAllOf_3 hw hbt (Cf.tt C2 hT) (Cf.d C2 hd) (Cf.rf C2) (by omega)) rfl rfl rfl ⟨12, _, rfl, rfl, rfl⟩ rfl (fun v' h' hv => ?_)
    obtain ⟨rfl, J3, p3, rfl, hz3, hf3⟩ := hv
    have el := fun g => loopP_t (op := 2005) (o := o') (item := seqP T e (atomR T e 3) 20 2004) cw g
    have en' := loopP_n (op := 2005) (o := o') (item := seqP T e (atomR T e 3) 20 2004) cw
    rcases hr2 : (seqP T e (atomR T e 3) 20 2004) (nx T e b') o' with ⟨z2, b2, o2⟩
    rw [hr2] at hz3 hf3 g4 el en'
    cases z2 with
    | false =>
      refine a_if_ne rfl (fun z => absurd rfl z) (fun _ => ?_)
      refine a_s rfl rfl ?_
      rw [← es, en' Bool.false_ne_true]
      exact a_zret rfl rfl rfl (Cf.no C2 (hf3 rfl).1 (hf3 rfl).2)
    | true =>
      refine a_if_ne rfl (fun _ => ?_) (fun z => absurd (show (1 : Int32) = 0 from z) (by decide))
      have C3 : Cf T e n0 b2 o2 I J3 p3 := Cf.cc C2 (hz3 rfl)
      have c3e := Cf.le C3
      obtain ⟨-, -, g5⟩ := g4
      have g5 : nx T e b' < b2 ∧ o2.length + nx T e b' ≤ o'.length + b2 := g5 rfl
      have es2 : loopP T e (seqP T e (atomR T e 3) 20 2004) 19 2005 b2 (2005 :: o2) = R := (el (by show b' < b2; omega) rfl).symm.trans es
      refine a_l0 rfl rfl rfl ?_
      refine a_s rfl rfl ?_
      refine a_s rfl rfl ?_
      refine a_eV0 rfl lX12_180 mo_X12_emits (r_X12_emits (Cf.st C3) (by omega)) rfl rfl rfl ⟨12, _, rfl, rfl, rfl⟩ rfl ?_
      refine a_goto rfl ?_
      exact ih (e - b2) _ _ (by omega) ⟨rfl, _, p3, b2, _, rfl, Cf.em (z := 2005) C3 (by decide) (by decide), by show o2.length + 1 < b2; omega, es2, rfl⟩
theorem h_readAtom_2 (hw : WdS S) (hbt : BtT T) (hT : I 426 = T) (hd : I 420 13 = nI 2) (h : Cf T e n0 b o I I p) (hB : o.length < b) : Sp S m_X12_readAtom 32 0 0 [.ref 420] (hp I L w1 w2 t) (QF T e n0 (atomR T e 4 b o) I L w1 w2 t) nX := by
  have he4 := Cf.e4 h
  have hbe := Cf.le h
  refine Sp_of ok_X12_readAtom rfl rfl ?_
  show AW S m_X12_readAtom 32 _ _ 0 0 0 [some (.ref 420), none] [] (hp I L w1 w2 t)
  refine a_l0 rfl rfl rfl ?_
  refine a_s rfl rfl ?_
  refine a_gV rfl lX12_187 mo_X12_sign (h_sign (b := b) (c := 40) (by rw [hT]; exact hbt) (by decide) (Cf.pp h) (by rw [hT]; exact Cf.nb h)) rfl rfl rfl ⟨12, _, rfl, rfl, rfl⟩ rfl (fun v' h' hv => ?_)
  obtain ⟨rfl, J1, rfl, h1⟩ := hv
  rw [hT] at h1 ⊢
  cases c40 : sg T e b (nI 40) with
  | true =>
    have c40 : sg T e b 40 = true := c40
    refine a_if_eq rfl (fun z => absurd z (by decide)) (fun _ => ?_)
    rw [if_pos (show sg T e b (nI 40) = true from c40)] at h1
    have n1 := nx_lt (T := T) (sg_lt c40)
    have C1 : Cf T e n0 (nx T e b) o I J1 (en T e b) := Cf.rd h h1 rfl
    refine a_l0 rfl rfl rfl ?_
    refine a_geti rfl gfX12_194_12 rfl ?_
    refine a_top (y := nI 2) (Cf.d C1 hd) ?_
    refine a_s rfl rfl ?_
    refine a_ic_ne rfl (fun _ => ?_) (fun c => absurd c (by decide))
    refine a_l0 rfl rfl rfl ?_
    refine a_s rfl rfl ?_
    refine a_geti rfl gfX12_194_12 rfl ?_
    refine a_top (y := nI 2) (Cf.d C1 hd) ?_
    refine a_s rfl rfl ?_
    refine a_s rfl rfl ?_
    refine a_top (y := nI 3) (rfl) ?_
    refine a_puti rfl pfX12_194_12 rfl ?_
    refine a_l0 rfl rfl rfl ?_
    have g4 := cndP_gd (T := T) (fun b o h => atomR_gd (T := T) 3 b o h) (o := o) (Cf.le C1)
    refine a_gV rfl lX12_197 mo_X12_readCond (h_readCond_3 hw hbt ((up2_row (by decide)).trans (Cf.tt C1 hT)) up2_at (Cf.up13 C1) (by omega)) rfl rfl rfl ⟨12, _, rfl, rfl, rfl⟩ rfl (fun v' h' hv => ?_)
    obtain ⟨rfl, J9, p9, rfl, hz9, hf9⟩ := hv
    rw [show seqP T e (seqP T e (atomR T e 3) 20 2004) 19 2005 = cndP T e (atomR T e 3) from rfl] at hz9 hf9 ⊢
    rcases hr9 : cndP T e (atomR T e 3) (nx T e b) o with ⟨z9, b9, o9⟩
    rw [hr9] at hz9 hf9 g4
    rw [atomR_p c40 hr9]
    cases z9 with
    | false =>
      refine a_if_ne rfl (fun z => absurd rfl z) (fun _ => ?_)
      refine a_s rfl rfl ?_
      rw [if_neg (by decide)]
      exact a_zret rfl rfl rfl (QF.no (Fm.tr C1.1 (Fm.tr (Fm.up Fm.rf rfl) (hf9 rfl).1)) (hf9 rfl).2)
    | true =>
      refine a_if_ne rfl (fun _ => ?_) (fun z => absurd (show (1 : Int32) = 0 from z) (by decide))
      rw [if_pos rfl]
      have D9 : Cf T e n0 b9 o9 (up2 J1 420 13 (nI 3)) J9 p9 := hz9 rfl
      refine a_l0 rfl rfl rfl ?_
      refine a_s rfl rfl ?_
      refine a_geti rfl gfX12_194_12 rfl ?_
      refine a_top (y := nI 3) (D9.2.1.trans up2_at) ?_
      refine a_s rfl rfl ?_
      refine a_s rfl rfl ?_
      refine a_top (y := nI 2) (rfl) ?_
      refine a_puti rfl pfX12_194_12 rfl ?_
      have C9 := Cf.deep C1 hd D9
      have eT9 := Cf.tt C9 hT
      refine a_l0 rfl rfl rfl ?_
      refine a_s rfl rfl ?_
      refine a_gV rfl lX12_187 mo_X12_sign (h_sign (b := b9) (c := 41) (by rw [eT9]; exact hbt) (by decide) (Cf.pp C9) (by rw [eT9]; exact Cf.nb C9)) rfl rfl rfl ⟨12, _, rfl, rfl, rfl⟩ rfl (fun v' h' hv => ?_)
      obtain ⟨rfl, J3, rfl, h3⟩ := hv
      rw [eT9] at h3 ⊢
      cases c41 : sg T e b9 (nI 41) with
      | false =>
        have c41 : sg T e b9 41 = false := c41
        rw [if_neg (by rw [show sg T e b9 (nI 41) = false from c41]; decide)] at h3
        rw [if_neg (by rw [c41]; decide)]
        exact a_zret rfl rfl rfl (QF.no (Fm.tr C9.1 (Fm.mo (Rd.fm h3) sR_sY)) (Rd.be h3))
      | true =>
        have c41 : sg T e b9 41 = true := c41
        rw [if_pos (show sg T e b9 (nI 41) = true from c41)] at h3
        rw [if_pos c41]
        exact a_zret rfl rfl rfl (QF.yes (Cf.rd C9 h3 rfl))
  | false =>
  have c40 : sg T e b 40 = false := c40
  refine a_if_eq rfl (fun _ => ?_) (fun z => absurd rfl z)
  rw [if_neg (by rw [show sg T e b (nI 40) = false from c40]; decide)] at h1
  have C0 : Cf T e n0 b o I J1 b := Cf.rd h h1 (Cf.sk h)
  have eT0 := Cf.tt C0 hT
  refine a_l0 rfl rfl rfl ?_
  refine a_ldcs (q := 130 + 21) rfl (hw.ld (i := 21) (by decide)) ?_
  refine a_gV rfl lX12_128 mo_X12_passes (h_passes (b := b) (k := 21) hw (by decide) (Cf.pp C0) (by rw [eT0]; exact Cf.nb C0)) rfl rfl rfl ⟨12, _, rfl, rfl, rfl⟩ rfl (fun v' h' hv => ?_)
  obtain ⟨rfl, J2, rfl, h2⟩ := hv
  rw [eT0] at h2 ⊢
  cases c21 : isWd T e b 21 with
  | true =>
    refine a_if_eq rfl (fun z => absurd z (by decide)) (fun _ => ?_)
    rw [if_pos c21] at h2
    have n1 := nx_lt (T := T) (isWd_lt c21)
    have C2 : Cf T e n0 (nx T e b) o I J2 (en T e b) := Cf.rd C0 h2 rfl
    refine a_l0 rfl rfl rfl ?_
    refine a_geti rfl gfX12_194_12 rfl ?_
    refine a_top (y := nI 2) (Cf.d C2 hd) ?_
    refine a_s rfl rfl ?_
    refine a_ic_ne rfl (fun _ => ?_) (fun c => absurd c (by decide))
    refine a_l0 rfl rfl rfl ?_
    refine a_s rfl rfl ?_
    refine a_geti rfl gfX12_194_12 rfl ?_
    refine a_top (y := nI 2) (Cf.d C2 hd) ?_
    refine a_s rfl rfl ?_
    refine a_s rfl rfl ?_
    refine a_top (y := nI 3) (rfl) ?_
    refine a_puti rfl pfX12_194_12 rfl ?_
    refine a_l0 rfl rfl rfl ?_
    have g4 := atomR_gdo (T := T) (D := 3) (o := o) (Cf.le C2)
    refine a_gV rfl lX12_202 mo_X12_readAtom (h_readAtom_3 hw hbt ((up2_row (by decide)).trans (Cf.tt C2 hT)) up2_at (Cf.up13 C2) (by omega)) rfl rfl rfl ⟨12, _, rfl, rfl, rfl⟩ rfl (fun v' h' hv => ?_)
    obtain ⟨rfl, J9, p9, rfl, hz9, hf9⟩ := hv
    rcases hr9 : atomR T e 3 (nx T e b) o with ⟨z9, b9, o9⟩
    rw [hr9] at hz9 hf9 g4
    rw [atomR_n c40 c21 hr9]
    cases z9 with
    | false =>
      refine a_if_ne rfl (fun z => absurd rfl z) (fun _ => ?_)
      refine a_s rfl rfl ?_
      rw [if_neg (by decide)]
      exact a_zret rfl rfl rfl (QF.no (Fm.tr C2.1 (Fm.tr (Fm.up Fm.rf rfl) (hf9 rfl).1)) (hf9 rfl).2)
    | true =>
      refine a_if_ne rfl (fun _ => ?_) (fun z => absurd (show (1 : Int32) = 0 from z) (by decide))
      rw [if_pos rfl]
      have D9 : Cf T e n0 b9 o9 (up2 J2 420 13 (nI 3)) J9 p9 := hz9 rfl
      obtain ⟨-, -, g5⟩ := g4
      have g5 : nx T e b < b9 ∧ o9.length + nx T e b ≤ o.length + b9 := g5 rfl
      have c9e := Cf.le D9
      refine a_l0 rfl rfl rfl ?_
      refine a_s rfl rfl ?_
      refine a_geti rfl gfX12_194_12 rfl ?_
      refine a_top (y := nI 3) (D9.2.1.trans up2_at) ?_
      refine a_s rfl rfl ?_
      refine a_s rfl rfl ?_
      refine a_top (y := nI 2) (rfl) ?_
      refine a_puti rfl pfX12_194_12 rfl ?_
      have C9 := Cf.deep C2 hd D9
      refine a_l0 rfl rfl rfl ?_
      refine a_s rfl rfl ?_
      refine a_s rfl rfl ?_
      refine a_eV0 rfl lX12_180 mo_X12_emits (r_X12_emits (Cf.st C9) (by omega)) rfl rfl rfl ⟨12, _, rfl, rfl, rfl⟩ rfl ?_
      refine a_s rfl rfl ?_
      exact a_zret rfl rfl rfl (QF.yes (Cf.em (z := 2003) C9 (by decide) (by decide)))
  | false =>
  refine a_if_eq rfl (fun _ => ?_) (fun z => absurd rfl z)
  rw [if_neg (by rw [c21]; decide)] at h2
  have C2 : Cf T e n0 b o I J2 b := Cf.rd C0 h2 (Cf.sk C0)
  rw [atomR_b c40 c21]
  refine a_l0 rfl rfl rfl ?_
  refine a_gV rfl lX12_205 mo_X12_readTag (h_readTag hw (Cf.tt C2 hT) (Cf.rf C2) hB) rfl rfl rfl ⟨12, _, rfl, rfl, rfl⟩ rfl (fun v' h' hv => ?_)
  obtain ⟨z3, x3, J3, p3, rfl, rfl, ht3, hf3⟩ := hv
  cases z3 with
  | true =>
    refine a_if_eq rfl (fun z => absurd z (by decide)) (fun _ => ?_)
    refine a_s rfl rfl ?_
    obtain ⟨hx, D3⟩ := ht3 rfl
    rcases hx with ⟨c22, rfl⟩ | ⟨c22, c23, rfl⟩
    · rw [show baseP T e b o = (true, nx T e b, 1007 :: o) from if_pos c22]
      exact a_zret rfl rfl rfl (QF.yes (Cf.cc C2 D3))
    · rw [show baseP T e b o = (true, nx T e b, 1008 :: o) from (if_neg (by rw [c22]; decide)).trans (if_pos c23)]
      exact a_zret rfl rfl rfl (QF.yes (Cf.cc C2 D3))
  | false =>
  refine a_if_eq rfl (fun _ => ?_) (fun z => absurd rfl z)
  obtain ⟨⟨c22, c23⟩, D3⟩ := hf3 rfl
  have C3 := Cf.cc C2 D3
  have g4 := sumP_gd (T := T) (o := o) hbe
  refine a_l0 rfl rfl rfl ?_
  refine a_gV rfl lX12_208 mo_X12_readSum (h_readSum hw hbt (Cf.tt C3 hT) (Cf.rf C3) hB) rfl rfl rfl ⟨12, _, rfl, rfl, rfl⟩ rfl (fun v' h' hv => ?_)
  obtain ⟨rfl, J4, p4, rfl, hz4, hf4⟩ := hv
  rcases hr4 : sumP T e b o with ⟨z4, b4, o4⟩
  rw [baseP_s c22 c23 hr4]
  rw [hr4] at hz4 hf4 g4
  cases z4 with
  | false =>
    refine a_if_ne rfl (fun z => absurd rfl z) (fun _ => ?_)
    refine a_s rfl rfl ?_
    rw [if_neg (by decide)]
    exact a_zret rfl rfl rfl (Cf.no C3 (hf4 rfl).1 (hf4 rfl).2)
  | true =>
  refine a_if_ne rfl (fun _ => ?_) (fun z => absurd (show (1 : Int32) = 0 from z) (by decide))
  rw [if_pos rfl]
  have C4 : Cf T e n0 b4 o4 I J4 p4 := Cf.cc C3 (hz4 rfl)
  obtain ⟨-, -, g4⟩ := g4
  have g4 : b < b4 ∧ o4.length + b ≤ o.length + b4 := g4 rfl
  have key : ∀ {z5 : Bool} {x : Int32} {p' : Nat} {J : Nat → Nat → Int32}, b4 < nx T e b4 → x = (if z5 = true then 2001 else 2002) → Cf T e n0 (nx T e b4) o4 I J p' → AW S m_X12_readAtom 32 (QF T e n0 (cmpP T e x (nx T e b4) o4) I L w1 w2 t) nX 0 0 152 [some (.ref 420), some (.int (bI z5))] [] (hp J L w1 w2 t) := by
    intro z5 x p' J n4 hx C
    have g6 := sumP_gd (T := T) (o := o4) (Cf.le C)
    refine a_l0 rfl rfl rfl ?_
    refine a_gV rfl lX12_208 mo_X12_readSum (h_readSum hw hbt (Cf.tt C hT) (Cf.rf C) (by omega)) rfl rfl rfl ⟨12, _, rfl, rfl, rfl⟩ rfl (fun v' h' hv => ?_)
    obtain ⟨rfl, J6, p6, rfl, hz6, hf6⟩ := hv
    rcases hr6 : sumP T e (nx T e b4) o4 with ⟨z6, b6, o6⟩
    rw [hr6] at hz6 hf6 g6
    cases z6 with
    | false =>
      refine a_if_ne rfl (fun z => absurd rfl z) (fun _ => ?_)
      refine a_s rfl rfl ?_
      rw [cmpP_f hr6]
      exact a_zret rfl rfl rfl (Cf.no C (hf6 rfl).1 (hf6 rfl).2)
    | true =>
      refine a_if_ne rfl (fun _ => ?_) (fun z => absurd (show (1 : Int32) = 0 from z) (by decide))
      rw [cmpP_t hr6]
      have C6 : Cf T e n0 b6 o6 I J6 p6 := Cf.cc C (hz6 rfl)
      have c6e := Cf.le C6
      obtain ⟨-, -, g6⟩ := g6
      have g6 : nx T e b4 < b6 ∧ o6.length + nx T e b4 ≤ o4.length + b6 := g6 rfl
      refine a_l0 rfl rfl rfl ?_
      refine a_l1 rfl rfl rfl ?_
      cases z5 with
      | false =>
        rw [if_neg (by decide)] at hx
        subst hx
        refine a_if_eq rfl (fun _ => ?_) (fun c => absurd rfl c)
        refine a_s rfl rfl ?_
        refine a_s rfl rfl ?_
        refine a_eV0 rfl lX12_180 mo_X12_emits (r_X12_emits (Cf.st C6) (by omega)) rfl rfl rfl ⟨12, _, rfl, rfl, rfl⟩ rfl ?_
        refine a_s rfl rfl ?_
        exact a_zret rfl rfl rfl (QF.yes (Cf.em (z := 2002) C6 (by decide) (by decide)))
      | true =>
        rw [if_pos rfl] at hx
        subst hx
        refine a_if_eq rfl (fun c => absurd c (by decide)) (fun _ => ?_)
        refine a_s rfl rfl ?_
        refine a_goto rfl ?_
        refine a_s rfl rfl ?_
        refine a_eV0 rfl lX12_180 mo_X12_emits (r_X12_emits (Cf.st C6) (by omega)) rfl rfl rfl ⟨12, _, rfl, rfl, rfl⟩ rfl ?_
        refine a_s rfl rfl ?_
        exact a_zret rfl rfl rfl (QF.yes (Cf.em (z := 2001) C6 (by decide) (by decide)))
  have eT4 := Cf.tt C4 hT
  refine a_l0 rfl rfl rfl ?_
  refine a_s rfl rfl ?_
  refine a_gV rfl lX12_187 mo_X12_sign (h_sign (b := b4) (c := 60) (by rw [eT4]; exact hbt) (by decide) (Cf.pp C4) (by rw [eT4]; exact Cf.nb C4)) rfl rfl rfl ⟨12, _, rfl, rfl, rfl⟩ rfl (fun v' h' hv => ?_)
  obtain ⟨rfl, J5, rfl, h5⟩ := hv
  rw [eT4] at h5 ⊢
  refine a_s1 rfl rfl rfl rfl rfl rfl ?_
  refine a_l1 rfl rfl rfl ?_
  cases c60 : sg T e b4 (nI 60) with
  | true =>
    have c60 : sg T e b4 60 = true := c60
    refine a_if_ne rfl (fun _ => ?_) (fun z => absurd (show (1 : Int32) = 0 from z) (by decide))
    rw [if_pos (show sg T e b4 (nI 60) = true from c60)] at h5
    rw [if_pos c60]
    exact key (z5 := true) (nx_lt (sg_lt c60)) rfl (Cf.rd C4 h5 rfl)
  | false =>
  have c60 : sg T e b4 60 = false := c60
  refine a_if_ne rfl (fun z => absurd rfl z) (fun _ => ?_)
  rw [if_neg (by rw [show sg T e b4 (nI 60) = false from c60]; decide)] at h5
  rw [if_neg (by rw [c60]; decide)]
  have C5 : Cf T e n0 b4 o4 I J5 b4 := Cf.rd C4 h5 (Cf.sk C4)
  have eT5 := Cf.tt C5 hT
  refine a_l0 rfl rfl rfl ?_
  refine a_s rfl rfl ?_
  refine a_gV rfl lX12_187 mo_X12_sign (h_sign (b := b4) (c := 62) (by rw [eT5]; exact hbt) (by decide) (Cf.pp C5) (by rw [eT5]; exact Cf.nb C5)) rfl rfl rfl ⟨12, _, rfl, rfl, rfl⟩ rfl (fun v' h' hv => ?_)
  obtain ⟨rfl, J7, rfl, h7⟩ := hv
  rw [eT5] at h7 ⊢
  cases c62 : sg T e b4 (nI 62) with
  | false =>
    have c62 : sg T e b4 62 = false := c62
    refine a_if_eq rfl (fun _ => ?_) (fun z => absurd rfl z)
    rw [if_neg (by rw [show sg T e b4 (nI 62) = false from c62]; decide)] at h7
    rw [if_neg (by rw [c62]; decide)]
    refine a_s rfl rfl ?_
    exact a_zret rfl rfl rfl (QF.no (Fm.tr C5.1 (Fm.mo (Rd.fm h7) sR_sY)) (Rd.be h7))
  | true =>
    have c62 : sg T e b4 62 = true := c62
    refine a_if_eq rfl (fun z => absurd z (by decide)) (fun _ => ?_)
    rw [if_pos (show sg T e b4 (nI 62) = true from c62)] at h7
    rw [if_pos c62]
    exact key (z5 := false) (nx_lt (sg_lt c62)) rfl (Cf.rd C5 h7 rfl)
theorem h_readAllOf_2 (hw : WdS S) (hbt : BtT T) (hT : I 426 = T) (hd : I 420 13 = nI 2) (h : Cf T e n0 b o I I p) (hB : o.length < b) : Sp S m_X12_readAllOf 33 0 0 [.ref 420] (hp I L w1 w2 t) (QF T e n0 (seqP T e (atomR T e 4) 20 2004 b o) I L w1 w2 t) nX := by
  have he4 := Cf.e4 h
  have g0 := atomR_gdo (T := T) (D := 4) (o := o) (Cf.le h)
  refine Sp_of ok_X12_readAllOf rfl rfl ?_
  show AW S m_X12_readAllOf 33 _ _ 0 0 0 [some (.ref 420)] [] (hp I L w1 w2 t)
  refine a_l0 rfl rfl rfl ?_
  refine a_gV rfl lX12_202 mo_X12_readAtom (h_readAtom_2 hw hbt hT hd h hB) rfl rfl rfl ⟨12, _, rfl, rfl, rfl⟩ rfl (fun v' h' hv => ?_)
  obtain ⟨rfl, J1, p1, rfl, hz1, hf1⟩ := hv
  rcases hr : (atomR T e 4) b o with ⟨z, b1, o1⟩
  rw [seqP_of hr]
  rw [hr] at hz1 hf1 g0
  cases z with
  | false =>
    refine a_if_ne rfl (fun z => absurd rfl z) (fun _ => ?_)
    refine a_s rfl rfl ?_
    rw [if_neg (by decide)]
    exact a_zret rfl rfl rfl (QF.no (hf1 rfl).1 (hf1 rfl).2)
  | true =>
  refine a_if_ne rfl (fun _ => ?_) (fun z => absurd (show (1 : Int32) = 0 from z) (by decide))
  rw [if_pos rfl]
  obtain ⟨-, -, g3⟩ := g0
  have g3 : b < b1 ∧ o1.length + b ≤ o.length + b1 := g3 rfl
  generalize hR : loopP T e (atomR T e 4) 20 2004 b1 o1 = R
  refine a_inv (n := e - b1) (fun m ls h => ls = [some (.ref 420)] ∧ ∃ J p' b' o', h = hp J L w1 w2 t ∧ Cf T e n0 b' o' I J p' ∧ o'.length < b' ∧ loopP T e (atomR T e 4) 20 2004 b' o' = R ∧ m = e - b') ⟨rfl, J1, p1, _, _, rfl, hz1 rfl, by show o1.length < b1; omega, hR, rfl⟩ ?_
  rintro m _ _ ⟨rfl, J, p', b', o', rfl, C, hB', es, hm⟩ ih
  have eT := Cf.tt C hT
  refine a_l0 rfl rfl rfl ?_
  refine a_ldcs (q := 130 + 20) rfl (hw.ld (i := 20) (by decide)) ?_
  refine a_gV rfl lX12_128 mo_X12_passes (h_passes (b := b') (k := 20) hw (by decide) (Cf.pp C) (by rw [eT]; exact Cf.nb C)) rfl rfl rfl ⟨12, _, rfl, rfl, rfl⟩ rfl (fun v' h' hv => ?_)
  obtain ⟨rfl, J2, rfl, h2⟩ := hv
  rw [eT] at h2 ⊢
  cases cw : isWd T e b' 20 with
  | false =>
    refine a_if_eq rfl (fun _ => ?_) (fun z => absurd rfl z)
    rw [if_neg (by rw [cw]; decide)] at h2
    refine a_s rfl rfl ?_
    rw [← es, loopP_f cw]
    exact a_zret rfl rfl rfl (QF.yes (Cf.rd C h2 (Cf.sk C)))
  | true =>
    refine a_if_eq rfl (fun z => absurd z (by decide)) (fun _ => ?_)
    rw [if_pos cw] at h2
    have n2 := nx_lt (T := T) (isWd_lt cw)
    have C2 : Cf T e n0 (nx T e b') o' I J2 (en T e b') := Cf.rd C h2 rfl
    have n2e := Cf.le C2
    have g4 := atomR_gdo (T := T) (D := 4) (o := o') n2e
    refine a_l0 rfl rfl rfl ?_
    refine a_gV rfl lX12_202 mo_X12_readAtom (h_readAtom_2 hw hbt (Cf.tt C2 hT) (Cf.d C2 hd) (Cf.rf C2) (by omega)) rfl rfl rfl ⟨12, _, rfl, rfl, rfl⟩ rfl (fun v' h' hv => ?_)
    obtain ⟨rfl, J3, p3, rfl, hz3, hf3⟩ := hv
    have el := fun g => loopP_t (op := 2004) (o := o') (item := atomR T e 4) cw g
    have en' := loopP_n (op := 2004) (o := o') (item := atomR T e 4) cw
    rcases hr2 : (atomR T e 4) (nx T e b') o' with ⟨z2, b2, o2⟩
    rw [hr2] at hz3 hf3 g4 el en'
    cases z2 with
    | false =>
      refine a_if_ne rfl (fun z => absurd rfl z) (fun _ => ?_)
      refine a_s rfl rfl ?_
      rw [← es, en' Bool.false_ne_true]
      exact a_zret rfl rfl rfl (Cf.no C2 (hf3 rfl).1 (hf3 rfl).2)
    | true =>
      refine a_if_ne rfl (fun _ => ?_) (fun z => absurd (show (1 : Int32) = 0 from z) (by decide))
      have C3 : Cf T e n0 b2 o2 I J3 p3 := Cf.cc C2 (hz3 rfl)
      have c3e := Cf.le C3
      obtain ⟨-, -, g5⟩ := g4
      have g5 : nx T e b' < b2 ∧ o2.length + nx T e b' ≤ o'.length + b2 := g5 rfl
      have es2 : loopP T e (atomR T e 4) 20 2004 b2 (2004 :: o2) = R := (el (by show b' < b2; omega) rfl).symm.trans es
      refine a_l0 rfl rfl rfl ?_
      refine a_s rfl rfl ?_
      refine a_s rfl rfl ?_
      refine a_eV0 rfl lX12_180 mo_X12_emits (r_X12_emits (Cf.st C3) (by omega)) rfl rfl rfl ⟨12, _, rfl, rfl, rfl⟩ rfl ?_
      refine a_goto rfl ?_
      exact ih (e - b2) _ _ (by omega) ⟨rfl, _, p3, b2, _, rfl, Cf.em (z := 2004) C3 (by decide) (by decide), by show o2.length + 1 < b2; omega, es2, rfl⟩
theorem h_readCond_2 (hw : WdS S) (hbt : BtT T) (hT : I 426 = T) (hd : I 420 13 = nI 2) (h : Cf T e n0 b o I I p) (hB : o.length < b) : Sp S m_X12_readCond 34 0 0 [.ref 420] (hp I L w1 w2 t) (QF T e n0 (seqP T e (seqP T e (atomR T e 4) 20 2004) 19 2005 b o) I L w1 w2 t) nX := by
  have he4 := Cf.e4 h
  have g0 := seqA_gd (T := T) (D := 4) (o := o) (Cf.le h)
  refine Sp_of ok_X12_readCond rfl rfl ?_
  show AW S m_X12_readCond 34 _ _ 0 0 0 [some (.ref 420)] [] (hp I L w1 w2 t)
  refine a_l0 rfl rfl rfl ?_
  refine a_gV rfl lX12_213 mo_X12_readAllOf (h_readAllOf_2 hw hbt hT hd h hB) rfl rfl rfl ⟨12, _, rfl, rfl, rfl⟩ rfl (fun v' h' hv => ?_)
  obtain ⟨rfl, J1, p1, rfl, hz1, hf1⟩ := hv
  rcases hr : (seqP T e (atomR T e 4) 20 2004) b o with ⟨z, b1, o1⟩
  rw [seqP_of hr]
  rw [hr] at hz1 hf1 g0
  cases z with
  | false =>
    refine a_if_ne rfl (fun z => absurd rfl z) (fun _ => ?_)
    refine a_s rfl rfl ?_
    rw [if_neg (by decide)]
    exact a_zret rfl rfl rfl (QF.no (hf1 rfl).1 (hf1 rfl).2)
  | true =>
  refine a_if_ne rfl (fun _ => ?_) (fun z => absurd (show (1 : Int32) = 0 from z) (by decide))
  rw [if_pos rfl]
  obtain ⟨-, -, g3⟩ := g0
  have g3 : b < b1 ∧ o1.length + b ≤ o.length + b1 := g3 rfl
  generalize hR : loopP T e (seqP T e (atomR T e 4) 20 2004) 19 2005 b1 o1 = R
  refine a_inv (n := e - b1) (fun m ls h => ls = [some (.ref 420)] ∧ ∃ J p' b' o', h = hp J L w1 w2 t ∧ Cf T e n0 b' o' I J p' ∧ o'.length < b' ∧ loopP T e (seqP T e (atomR T e 4) 20 2004) 19 2005 b' o' = R ∧ m = e - b') ⟨rfl, J1, p1, _, _, rfl, hz1 rfl, by show o1.length < b1; omega, hR, rfl⟩ ?_
  rintro m _ _ ⟨rfl, J, p', b', o', rfl, C, hB', es, hm⟩ ih
  have eT := Cf.tt C hT
  refine a_l0 rfl rfl rfl ?_
  refine a_ldcs (q := 130 + 19) rfl (hw.ld (i := 19) (by decide)) ?_
  refine a_gV rfl lX12_128 mo_X12_passes (h_passes (b := b') (k := 19) hw (by decide) (Cf.pp C) (by rw [eT]; exact Cf.nb C)) rfl rfl rfl ⟨12, _, rfl, rfl, rfl⟩ rfl (fun v' h' hv => ?_)
  obtain ⟨rfl, J2, rfl, h2⟩ := hv
  rw [eT] at h2 ⊢
  cases cw : isWd T e b' 19 with
  | false =>
    refine a_if_eq rfl (fun _ => ?_) (fun z => absurd rfl z)
    rw [if_neg (by rw [cw]; decide)] at h2
    refine a_s rfl rfl ?_
    rw [← es, loopP_f cw]
    exact a_zret rfl rfl rfl (QF.yes (Cf.rd C h2 (Cf.sk C)))
  | true =>
    refine a_if_eq rfl (fun z => absurd z (by decide)) (fun _ => ?_)
    rw [if_pos cw] at h2
    have n2 := nx_lt (T := T) (isWd_lt cw)
    have C2 : Cf T e n0 (nx T e b') o' I J2 (en T e b') := Cf.rd C h2 rfl
    have n2e := Cf.le C2
    have g4 := seqA_gd (T := T) (D := 4) (o := o') n2e
    refine a_l0 rfl rfl rfl ?_
    refine a_gV rfl lX12_213 mo_X12_readAllOf (h_readAllOf_2 hw hbt (Cf.tt C2 hT) (Cf.d C2 hd) (Cf.rf C2) (by omega)) rfl rfl rfl ⟨12, _, rfl, rfl, rfl⟩ rfl (fun v' h' hv => ?_)
    obtain ⟨rfl, J3, p3, rfl, hz3, hf3⟩ := hv
    have el := fun g => loopP_t (op := 2005) (o := o') (item := seqP T e (atomR T e 4) 20 2004) cw g
    have en' := loopP_n (op := 2005) (o := o') (item := seqP T e (atomR T e 4) 20 2004) cw
    rcases hr2 : (seqP T e (atomR T e 4) 20 2004) (nx T e b') o' with ⟨z2, b2, o2⟩
    rw [hr2] at hz3 hf3 g4 el en'
    cases z2 with
    | false =>
      refine a_if_ne rfl (fun z => absurd rfl z) (fun _ => ?_)
      refine a_s rfl rfl ?_
      rw [← es, en' Bool.false_ne_true]
      exact a_zret rfl rfl rfl (Cf.no C2 (hf3 rfl).1 (hf3 rfl).2)
    | true =>
      refine a_if_ne rfl (fun _ => ?_) (fun z => absurd (show (1 : Int32) = 0 from z) (by decide))
      have C3 : Cf T e n0 b2 o2 I J3 p3 := Cf.cc C2 (hz3 rfl)
      have c3e := Cf.le C3
      obtain ⟨-, -, g5⟩ := g4
      have g5 : nx T e b' < b2 ∧ o2.length + nx T e b' ≤ o'.length + b2 := g5 rfl
      have es2 : loopP T e (seqP T e (atomR T e 4) 20 2004) 19 2005 b2 (2005 :: o2) = R := (el (by show b' < b2; omega) rfl).symm.trans es
      refine a_l0 rfl rfl rfl ?_
      refine a_s rfl rfl ?_
      refine a_s rfl rfl ?_
      refine a_eV0 rfl lX12_180 mo_X12_emits (r_X12_emits (Cf.st C3) (by omega)) rfl rfl rfl ⟨12, _, rfl, rfl, rfl⟩ rfl ?_
      refine a_goto rfl ?_
      exact ih (e - b2) _ _ (by omega) ⟨rfl, _, p3, b2, _, rfl, Cf.em (z := 2005) C3 (by decide) (by decide), by show o2.length + 1 < b2; omega, es2, rfl⟩
theorem h_readAtom_1 (hw : WdS S) (hbt : BtT T) (hT : I 426 = T) (hd : I 420 13 = nI 1) (h : Cf T e n0 b o I I p) (hB : o.length < b) : Sp S m_X12_readAtom 35 0 0 [.ref 420] (hp I L w1 w2 t) (QF T e n0 (atomR T e 5 b o) I L w1 w2 t) nX := by
  have he4 := Cf.e4 h
  have hbe := Cf.le h
  refine Sp_of ok_X12_readAtom rfl rfl ?_
  show AW S m_X12_readAtom 35 _ _ 0 0 0 [some (.ref 420), none] [] (hp I L w1 w2 t)
  refine a_l0 rfl rfl rfl ?_
  refine a_s rfl rfl ?_
  refine a_gV rfl lX12_187 mo_X12_sign (h_sign (b := b) (c := 40) (by rw [hT]; exact hbt) (by decide) (Cf.pp h) (by rw [hT]; exact Cf.nb h)) rfl rfl rfl ⟨12, _, rfl, rfl, rfl⟩ rfl (fun v' h' hv => ?_)
  obtain ⟨rfl, J1, rfl, h1⟩ := hv
  rw [hT] at h1 ⊢
  cases c40 : sg T e b (nI 40) with
  | true =>
    have c40 : sg T e b 40 = true := c40
    refine a_if_eq rfl (fun z => absurd z (by decide)) (fun _ => ?_)
    rw [if_pos (show sg T e b (nI 40) = true from c40)] at h1
    have n1 := nx_lt (T := T) (sg_lt c40)
    have C1 : Cf T e n0 (nx T e b) o I J1 (en T e b) := Cf.rd h h1 rfl
    refine a_l0 rfl rfl rfl ?_
    refine a_geti rfl gfX12_194_12 rfl ?_
    refine a_top (y := nI 1) (Cf.d C1 hd) ?_
    refine a_s rfl rfl ?_
    refine a_ic_ne rfl (fun _ => ?_) (fun c => absurd c (by decide))
    refine a_l0 rfl rfl rfl ?_
    refine a_s rfl rfl ?_
    refine a_geti rfl gfX12_194_12 rfl ?_
    refine a_top (y := nI 1) (Cf.d C1 hd) ?_
    refine a_s rfl rfl ?_
    refine a_s rfl rfl ?_
    refine a_top (y := nI 2) (rfl) ?_
    refine a_puti rfl pfX12_194_12 rfl ?_
    refine a_l0 rfl rfl rfl ?_
    have g4 := cndP_gd (T := T) (fun b o h => atomR_gd (T := T) 4 b o h) (o := o) (Cf.le C1)
    refine a_gV rfl lX12_197 mo_X12_readCond (h_readCond_2 hw hbt ((up2_row (by decide)).trans (Cf.tt C1 hT)) up2_at (Cf.up13 C1) (by omega)) rfl rfl rfl ⟨12, _, rfl, rfl, rfl⟩ rfl (fun v' h' hv => ?_)
    obtain ⟨rfl, J9, p9, rfl, hz9, hf9⟩ := hv
    rw [show seqP T e (seqP T e (atomR T e 4) 20 2004) 19 2005 = cndP T e (atomR T e 4) from rfl] at hz9 hf9 ⊢
    rcases hr9 : cndP T e (atomR T e 4) (nx T e b) o with ⟨z9, b9, o9⟩
    rw [hr9] at hz9 hf9 g4
    rw [atomR_p c40 hr9]
    cases z9 with
    | false =>
      refine a_if_ne rfl (fun z => absurd rfl z) (fun _ => ?_)
      refine a_s rfl rfl ?_
      rw [if_neg (by decide)]
      exact a_zret rfl rfl rfl (QF.no (Fm.tr C1.1 (Fm.tr (Fm.up Fm.rf rfl) (hf9 rfl).1)) (hf9 rfl).2)
    | true =>
      refine a_if_ne rfl (fun _ => ?_) (fun z => absurd (show (1 : Int32) = 0 from z) (by decide))
      rw [if_pos rfl]
      have D9 : Cf T e n0 b9 o9 (up2 J1 420 13 (nI 2)) J9 p9 := hz9 rfl
      refine a_l0 rfl rfl rfl ?_
      refine a_s rfl rfl ?_
      refine a_geti rfl gfX12_194_12 rfl ?_
      refine a_top (y := nI 2) (D9.2.1.trans up2_at) ?_
      refine a_s rfl rfl ?_
      refine a_s rfl rfl ?_
      refine a_top (y := nI 1) (rfl) ?_
      refine a_puti rfl pfX12_194_12 rfl ?_
      have C9 := Cf.deep C1 hd D9
      have eT9 := Cf.tt C9 hT
      refine a_l0 rfl rfl rfl ?_
      refine a_s rfl rfl ?_
      refine a_gV rfl lX12_187 mo_X12_sign (h_sign (b := b9) (c := 41) (by rw [eT9]; exact hbt) (by decide) (Cf.pp C9) (by rw [eT9]; exact Cf.nb C9)) rfl rfl rfl ⟨12, _, rfl, rfl, rfl⟩ rfl (fun v' h' hv => ?_)
      obtain ⟨rfl, J3, rfl, h3⟩ := hv
      rw [eT9] at h3 ⊢
      cases c41 : sg T e b9 (nI 41) with
      | false =>
        have c41 : sg T e b9 41 = false := c41
        rw [if_neg (by rw [show sg T e b9 (nI 41) = false from c41]; decide)] at h3
        rw [if_neg (by rw [c41]; decide)]
        exact a_zret rfl rfl rfl (QF.no (Fm.tr C9.1 (Fm.mo (Rd.fm h3) sR_sY)) (Rd.be h3))
      | true =>
        have c41 : sg T e b9 41 = true := c41
        rw [if_pos (show sg T e b9 (nI 41) = true from c41)] at h3
        rw [if_pos c41]
        exact a_zret rfl rfl rfl (QF.yes (Cf.rd C9 h3 rfl))
  | false =>
  have c40 : sg T e b 40 = false := c40
  refine a_if_eq rfl (fun _ => ?_) (fun z => absurd rfl z)
  rw [if_neg (by rw [show sg T e b (nI 40) = false from c40]; decide)] at h1
  have C0 : Cf T e n0 b o I J1 b := Cf.rd h h1 (Cf.sk h)
  have eT0 := Cf.tt C0 hT
  refine a_l0 rfl rfl rfl ?_
  refine a_ldcs (q := 130 + 21) rfl (hw.ld (i := 21) (by decide)) ?_
  refine a_gV rfl lX12_128 mo_X12_passes (h_passes (b := b) (k := 21) hw (by decide) (Cf.pp C0) (by rw [eT0]; exact Cf.nb C0)) rfl rfl rfl ⟨12, _, rfl, rfl, rfl⟩ rfl (fun v' h' hv => ?_)
  obtain ⟨rfl, J2, rfl, h2⟩ := hv
  rw [eT0] at h2 ⊢
  cases c21 : isWd T e b 21 with
  | true =>
    refine a_if_eq rfl (fun z => absurd z (by decide)) (fun _ => ?_)
    rw [if_pos c21] at h2
    have n1 := nx_lt (T := T) (isWd_lt c21)
    have C2 : Cf T e n0 (nx T e b) o I J2 (en T e b) := Cf.rd C0 h2 rfl
    refine a_l0 rfl rfl rfl ?_
    refine a_geti rfl gfX12_194_12 rfl ?_
    refine a_top (y := nI 1) (Cf.d C2 hd) ?_
    refine a_s rfl rfl ?_
    refine a_ic_ne rfl (fun _ => ?_) (fun c => absurd c (by decide))
    refine a_l0 rfl rfl rfl ?_
    refine a_s rfl rfl ?_
    refine a_geti rfl gfX12_194_12 rfl ?_
    refine a_top (y := nI 1) (Cf.d C2 hd) ?_
    refine a_s rfl rfl ?_
    refine a_s rfl rfl ?_
    refine a_top (y := nI 2) (rfl) ?_
    refine a_puti rfl pfX12_194_12 rfl ?_
    refine a_l0 rfl rfl rfl ?_
    have g4 := atomR_gdo (T := T) (D := 4) (o := o) (Cf.le C2)
    refine a_gV rfl lX12_202 mo_X12_readAtom (h_readAtom_2 hw hbt ((up2_row (by decide)).trans (Cf.tt C2 hT)) up2_at (Cf.up13 C2) (by omega)) rfl rfl rfl ⟨12, _, rfl, rfl, rfl⟩ rfl (fun v' h' hv => ?_)
    obtain ⟨rfl, J9, p9, rfl, hz9, hf9⟩ := hv
    rcases hr9 : atomR T e 4 (nx T e b) o with ⟨z9, b9, o9⟩
    rw [hr9] at hz9 hf9 g4
    rw [atomR_n c40 c21 hr9]
    cases z9 with
    | false =>
      refine a_if_ne rfl (fun z => absurd rfl z) (fun _ => ?_)
      refine a_s rfl rfl ?_
      rw [if_neg (by decide)]
      exact a_zret rfl rfl rfl (QF.no (Fm.tr C2.1 (Fm.tr (Fm.up Fm.rf rfl) (hf9 rfl).1)) (hf9 rfl).2)
    | true =>
      refine a_if_ne rfl (fun _ => ?_) (fun z => absurd (show (1 : Int32) = 0 from z) (by decide))
      rw [if_pos rfl]
      have D9 : Cf T e n0 b9 o9 (up2 J2 420 13 (nI 2)) J9 p9 := hz9 rfl
      obtain ⟨-, -, g5⟩ := g4
      have g5 : nx T e b < b9 ∧ o9.length + nx T e b ≤ o.length + b9 := g5 rfl
      have c9e := Cf.le D9
      refine a_l0 rfl rfl rfl ?_
      refine a_s rfl rfl ?_
      refine a_geti rfl gfX12_194_12 rfl ?_
      refine a_top (y := nI 2) (D9.2.1.trans up2_at) ?_
      refine a_s rfl rfl ?_
      refine a_s rfl rfl ?_
      refine a_top (y := nI 1) (rfl) ?_
      refine a_puti rfl pfX12_194_12 rfl ?_
      have C9 := Cf.deep C2 hd D9
      refine a_l0 rfl rfl rfl ?_
      refine a_s rfl rfl ?_
      refine a_s rfl rfl ?_
      refine a_eV0 rfl lX12_180 mo_X12_emits (r_X12_emits (Cf.st C9) (by omega)) rfl rfl rfl ⟨12, _, rfl, rfl, rfl⟩ rfl ?_
      refine a_s rfl rfl ?_
      exact a_zret rfl rfl rfl (QF.yes (Cf.em (z := 2003) C9 (by decide) (by decide)))
  | false =>
  refine a_if_eq rfl (fun _ => ?_) (fun z => absurd rfl z)
  rw [if_neg (by rw [c21]; decide)] at h2
  have C2 : Cf T e n0 b o I J2 b := Cf.rd C0 h2 (Cf.sk C0)
  rw [atomR_b c40 c21]
  refine a_l0 rfl rfl rfl ?_
  refine a_gV rfl lX12_205 mo_X12_readTag (h_readTag hw (Cf.tt C2 hT) (Cf.rf C2) hB) rfl rfl rfl ⟨12, _, rfl, rfl, rfl⟩ rfl (fun v' h' hv => ?_)
  obtain ⟨z3, x3, J3, p3, rfl, rfl, ht3, hf3⟩ := hv
  cases z3 with
  | true =>
    refine a_if_eq rfl (fun z => absurd z (by decide)) (fun _ => ?_)
    refine a_s rfl rfl ?_
    obtain ⟨hx, D3⟩ := ht3 rfl
    rcases hx with ⟨c22, rfl⟩ | ⟨c22, c23, rfl⟩
    · rw [show baseP T e b o = (true, nx T e b, 1007 :: o) from if_pos c22]
      exact a_zret rfl rfl rfl (QF.yes (Cf.cc C2 D3))
    · rw [show baseP T e b o = (true, nx T e b, 1008 :: o) from (if_neg (by rw [c22]; decide)).trans (if_pos c23)]
      exact a_zret rfl rfl rfl (QF.yes (Cf.cc C2 D3))
  | false =>
  refine a_if_eq rfl (fun _ => ?_) (fun z => absurd rfl z)
  obtain ⟨⟨c22, c23⟩, D3⟩ := hf3 rfl
  have C3 := Cf.cc C2 D3
  have g4 := sumP_gd (T := T) (o := o) hbe
  refine a_l0 rfl rfl rfl ?_
  refine a_gV rfl lX12_208 mo_X12_readSum (h_readSum hw hbt (Cf.tt C3 hT) (Cf.rf C3) hB) rfl rfl rfl ⟨12, _, rfl, rfl, rfl⟩ rfl (fun v' h' hv => ?_)
  obtain ⟨rfl, J4, p4, rfl, hz4, hf4⟩ := hv
  rcases hr4 : sumP T e b o with ⟨z4, b4, o4⟩
  rw [baseP_s c22 c23 hr4]
  rw [hr4] at hz4 hf4 g4
  cases z4 with
  | false =>
    refine a_if_ne rfl (fun z => absurd rfl z) (fun _ => ?_)
    refine a_s rfl rfl ?_
    rw [if_neg (by decide)]
    exact a_zret rfl rfl rfl (Cf.no C3 (hf4 rfl).1 (hf4 rfl).2)
  | true =>
  refine a_if_ne rfl (fun _ => ?_) (fun z => absurd (show (1 : Int32) = 0 from z) (by decide))
  rw [if_pos rfl]
  have C4 : Cf T e n0 b4 o4 I J4 p4 := Cf.cc C3 (hz4 rfl)
  obtain ⟨-, -, g4⟩ := g4
  have g4 : b < b4 ∧ o4.length + b ≤ o.length + b4 := g4 rfl
  have key : ∀ {z5 : Bool} {x : Int32} {p' : Nat} {J : Nat → Nat → Int32}, b4 < nx T e b4 → x = (if z5 = true then 2001 else 2002) → Cf T e n0 (nx T e b4) o4 I J p' → AW S m_X12_readAtom 35 (QF T e n0 (cmpP T e x (nx T e b4) o4) I L w1 w2 t) nX 0 0 152 [some (.ref 420), some (.int (bI z5))] [] (hp J L w1 w2 t) := by
    intro z5 x p' J n4 hx C
    have g6 := sumP_gd (T := T) (o := o4) (Cf.le C)
    refine a_l0 rfl rfl rfl ?_
    refine a_gV rfl lX12_208 mo_X12_readSum (h_readSum hw hbt (Cf.tt C hT) (Cf.rf C) (by omega)) rfl rfl rfl ⟨12, _, rfl, rfl, rfl⟩ rfl (fun v' h' hv => ?_)
    obtain ⟨rfl, J6, p6, rfl, hz6, hf6⟩ := hv
    rcases hr6 : sumP T e (nx T e b4) o4 with ⟨z6, b6, o6⟩
    rw [hr6] at hz6 hf6 g6
    cases z6 with
    | false =>
      refine a_if_ne rfl (fun z => absurd rfl z) (fun _ => ?_)
      refine a_s rfl rfl ?_
      rw [cmpP_f hr6]
      exact a_zret rfl rfl rfl (Cf.no C (hf6 rfl).1 (hf6 rfl).2)
    | true =>
      refine a_if_ne rfl (fun _ => ?_) (fun z => absurd (show (1 : Int32) = 0 from z) (by decide))
      rw [cmpP_t hr6]
      have C6 : Cf T e n0 b6 o6 I J6 p6 := Cf.cc C (hz6 rfl)
      have c6e := Cf.le C6
      obtain ⟨-, -, g6⟩ := g6
      have g6 : nx T e b4 < b6 ∧ o6.length + nx T e b4 ≤ o4.length + b6 := g6 rfl
      refine a_l0 rfl rfl rfl ?_
      refine a_l1 rfl rfl rfl ?_
      cases z5 with
      | false =>
        rw [if_neg (by decide)] at hx
        subst hx
        refine a_if_eq rfl (fun _ => ?_) (fun c => absurd rfl c)
        refine a_s rfl rfl ?_
        refine a_s rfl rfl ?_
        refine a_eV0 rfl lX12_180 mo_X12_emits (r_X12_emits (Cf.st C6) (by omega)) rfl rfl rfl ⟨12, _, rfl, rfl, rfl⟩ rfl ?_
        refine a_s rfl rfl ?_
        exact a_zret rfl rfl rfl (QF.yes (Cf.em (z := 2002) C6 (by decide) (by decide)))
      | true =>
        rw [if_pos rfl] at hx
        subst hx
        refine a_if_eq rfl (fun c => absurd c (by decide)) (fun _ => ?_)
        refine a_s rfl rfl ?_
        refine a_goto rfl ?_
        refine a_s rfl rfl ?_
        refine a_eV0 rfl lX12_180 mo_X12_emits (r_X12_emits (Cf.st C6) (by omega)) rfl rfl rfl ⟨12, _, rfl, rfl, rfl⟩ rfl ?_
        refine a_s rfl rfl ?_
        exact a_zret rfl rfl rfl (QF.yes (Cf.em (z := 2001) C6 (by decide) (by decide)))
  have eT4 := Cf.tt C4 hT
  refine a_l0 rfl rfl rfl ?_
  refine a_s rfl rfl ?_
  refine a_gV rfl lX12_187 mo_X12_sign (h_sign (b := b4) (c := 60) (by rw [eT4]; exact hbt) (by decide) (Cf.pp C4) (by rw [eT4]; exact Cf.nb C4)) rfl rfl rfl ⟨12, _, rfl, rfl, rfl⟩ rfl (fun v' h' hv => ?_)
  obtain ⟨rfl, J5, rfl, h5⟩ := hv
  rw [eT4] at h5 ⊢
  refine a_s1 rfl rfl rfl rfl rfl rfl ?_
  refine a_l1 rfl rfl rfl ?_
  cases c60 : sg T e b4 (nI 60) with
  | true =>
    have c60 : sg T e b4 60 = true := c60
    refine a_if_ne rfl (fun _ => ?_) (fun z => absurd (show (1 : Int32) = 0 from z) (by decide))
    rw [if_pos (show sg T e b4 (nI 60) = true from c60)] at h5
    rw [if_pos c60]
    exact key (z5 := true) (nx_lt (sg_lt c60)) rfl (Cf.rd C4 h5 rfl)
  | false =>
  have c60 : sg T e b4 60 = false := c60
  refine a_if_ne rfl (fun z => absurd rfl z) (fun _ => ?_)
  rw [if_neg (by rw [show sg T e b4 (nI 60) = false from c60]; decide)] at h5
  rw [if_neg (by rw [c60]; decide)]
  have C5 : Cf T e n0 b4 o4 I J5 b4 := Cf.rd C4 h5 (Cf.sk C4)
  have eT5 := Cf.tt C5 hT
  refine a_l0 rfl rfl rfl ?_
  refine a_s rfl rfl ?_
  refine a_gV rfl lX12_187 mo_X12_sign (h_sign (b := b4) (c := 62) (by rw [eT5]; exact hbt) (by decide) (Cf.pp C5) (by rw [eT5]; exact Cf.nb C5)) rfl rfl rfl ⟨12, _, rfl, rfl, rfl⟩ rfl (fun v' h' hv => ?_)
  obtain ⟨rfl, J7, rfl, h7⟩ := hv
  rw [eT5] at h7 ⊢
  cases c62 : sg T e b4 (nI 62) with
  | false =>
    have c62 : sg T e b4 62 = false := c62
    refine a_if_eq rfl (fun _ => ?_) (fun z => absurd rfl z)
    rw [if_neg (by rw [show sg T e b4 (nI 62) = false from c62]; decide)] at h7
    rw [if_neg (by rw [c62]; decide)]
    refine a_s rfl rfl ?_
    exact a_zret rfl rfl rfl (QF.no (Fm.tr C5.1 (Fm.mo (Rd.fm h7) sR_sY)) (Rd.be h7))
  | true =>
    have c62 : sg T e b4 62 = true := c62
    refine a_if_eq rfl (fun z => absurd z (by decide)) (fun _ => ?_)
    rw [if_pos (show sg T e b4 (nI 62) = true from c62)] at h7
    rw [if_pos c62]
    exact key (z5 := false) (nx_lt (sg_lt c62)) rfl (Cf.rd C5 h7 rfl)
theorem h_readAllOf_1 (hw : WdS S) (hbt : BtT T) (hT : I 426 = T) (hd : I 420 13 = nI 1) (h : Cf T e n0 b o I I p) (hB : o.length < b) : Sp S m_X12_readAllOf 36 0 0 [.ref 420] (hp I L w1 w2 t) (QF T e n0 (seqP T e (atomR T e 5) 20 2004 b o) I L w1 w2 t) nX := by
  have he4 := Cf.e4 h
  have g0 := atomR_gdo (T := T) (D := 5) (o := o) (Cf.le h)
  refine Sp_of ok_X12_readAllOf rfl rfl ?_
  show AW S m_X12_readAllOf 36 _ _ 0 0 0 [some (.ref 420)] [] (hp I L w1 w2 t)
  refine a_l0 rfl rfl rfl ?_
  refine a_gV rfl lX12_202 mo_X12_readAtom (h_readAtom_1 hw hbt hT hd h hB) rfl rfl rfl ⟨12, _, rfl, rfl, rfl⟩ rfl (fun v' h' hv => ?_)
  obtain ⟨rfl, J1, p1, rfl, hz1, hf1⟩ := hv
  rcases hr : (atomR T e 5) b o with ⟨z, b1, o1⟩
  rw [seqP_of hr]
  rw [hr] at hz1 hf1 g0
  cases z with
  | false =>
    refine a_if_ne rfl (fun z => absurd rfl z) (fun _ => ?_)
    refine a_s rfl rfl ?_
    rw [if_neg (by decide)]
    exact a_zret rfl rfl rfl (QF.no (hf1 rfl).1 (hf1 rfl).2)
  | true =>
  refine a_if_ne rfl (fun _ => ?_) (fun z => absurd (show (1 : Int32) = 0 from z) (by decide))
  rw [if_pos rfl]
  obtain ⟨-, -, g3⟩ := g0
  have g3 : b < b1 ∧ o1.length + b ≤ o.length + b1 := g3 rfl
  generalize hR : loopP T e (atomR T e 5) 20 2004 b1 o1 = R
  refine a_inv (n := e - b1) (fun m ls h => ls = [some (.ref 420)] ∧ ∃ J p' b' o', h = hp J L w1 w2 t ∧ Cf T e n0 b' o' I J p' ∧ o'.length < b' ∧ loopP T e (atomR T e 5) 20 2004 b' o' = R ∧ m = e - b') ⟨rfl, J1, p1, _, _, rfl, hz1 rfl, by show o1.length < b1; omega, hR, rfl⟩ ?_
  rintro m _ _ ⟨rfl, J, p', b', o', rfl, C, hB', es, hm⟩ ih
  have eT := Cf.tt C hT
  refine a_l0 rfl rfl rfl ?_
  refine a_ldcs (q := 130 + 20) rfl (hw.ld (i := 20) (by decide)) ?_
  refine a_gV rfl lX12_128 mo_X12_passes (h_passes (b := b') (k := 20) hw (by decide) (Cf.pp C) (by rw [eT]; exact Cf.nb C)) rfl rfl rfl ⟨12, _, rfl, rfl, rfl⟩ rfl (fun v' h' hv => ?_)
  obtain ⟨rfl, J2, rfl, h2⟩ := hv
  rw [eT] at h2 ⊢
  cases cw : isWd T e b' 20 with
  | false =>
    refine a_if_eq rfl (fun _ => ?_) (fun z => absurd rfl z)
    rw [if_neg (by rw [cw]; decide)] at h2
    refine a_s rfl rfl ?_
    rw [← es, loopP_f cw]
    exact a_zret rfl rfl rfl (QF.yes (Cf.rd C h2 (Cf.sk C)))
  | true =>
    refine a_if_eq rfl (fun z => absurd z (by decide)) (fun _ => ?_)
    rw [if_pos cw] at h2
    have n2 := nx_lt (T := T) (isWd_lt cw)
    have C2 : Cf T e n0 (nx T e b') o' I J2 (en T e b') := Cf.rd C h2 rfl
    have n2e := Cf.le C2
    have g4 := atomR_gdo (T := T) (D := 5) (o := o') n2e
    refine a_l0 rfl rfl rfl ?_
    refine a_gV rfl lX12_202 mo_X12_readAtom (h_readAtom_1 hw hbt (Cf.tt C2 hT) (Cf.d C2 hd) (Cf.rf C2) (by omega)) rfl rfl rfl ⟨12, _, rfl, rfl, rfl⟩ rfl (fun v' h' hv => ?_)
    obtain ⟨rfl, J3, p3, rfl, hz3, hf3⟩ := hv
    have el := fun g => loopP_t (op := 2004) (o := o') (item := atomR T e 5) cw g
    have en' := loopP_n (op := 2004) (o := o') (item := atomR T e 5) cw
    rcases hr2 : (atomR T e 5) (nx T e b') o' with ⟨z2, b2, o2⟩
    rw [hr2] at hz3 hf3 g4 el en'
    cases z2 with
    | false =>
      refine a_if_ne rfl (fun z => absurd rfl z) (fun _ => ?_)
      refine a_s rfl rfl ?_
      rw [← es, en' Bool.false_ne_true]
      exact a_zret rfl rfl rfl (Cf.no C2 (hf3 rfl).1 (hf3 rfl).2)
    | true =>
      refine a_if_ne rfl (fun _ => ?_) (fun z => absurd (show (1 : Int32) = 0 from z) (by decide))
      have C3 : Cf T e n0 b2 o2 I J3 p3 := Cf.cc C2 (hz3 rfl)
      have c3e := Cf.le C3
      obtain ⟨-, -, g5⟩ := g4
      have g5 : nx T e b' < b2 ∧ o2.length + nx T e b' ≤ o'.length + b2 := g5 rfl
      have es2 : loopP T e (atomR T e 5) 20 2004 b2 (2004 :: o2) = R := (el (by show b' < b2; omega) rfl).symm.trans es
      refine a_l0 rfl rfl rfl ?_
      refine a_s rfl rfl ?_
      refine a_s rfl rfl ?_
      refine a_eV0 rfl lX12_180 mo_X12_emits (r_X12_emits (Cf.st C3) (by omega)) rfl rfl rfl ⟨12, _, rfl, rfl, rfl⟩ rfl ?_
      refine a_goto rfl ?_
      exact ih (e - b2) _ _ (by omega) ⟨rfl, _, p3, b2, _, rfl, Cf.em (z := 2004) C3 (by decide) (by decide), by show o2.length + 1 < b2; omega, es2, rfl⟩
theorem h_readCond_1 (hw : WdS S) (hbt : BtT T) (hT : I 426 = T) (hd : I 420 13 = nI 1) (h : Cf T e n0 b o I I p) (hB : o.length < b) : Sp S m_X12_readCond 37 0 0 [.ref 420] (hp I L w1 w2 t) (QF T e n0 (seqP T e (seqP T e (atomR T e 5) 20 2004) 19 2005 b o) I L w1 w2 t) nX := by
  have he4 := Cf.e4 h
  have g0 := seqA_gd (T := T) (D := 5) (o := o) (Cf.le h)
  refine Sp_of ok_X12_readCond rfl rfl ?_
  show AW S m_X12_readCond 37 _ _ 0 0 0 [some (.ref 420)] [] (hp I L w1 w2 t)
  refine a_l0 rfl rfl rfl ?_
  refine a_gV rfl lX12_213 mo_X12_readAllOf (h_readAllOf_1 hw hbt hT hd h hB) rfl rfl rfl ⟨12, _, rfl, rfl, rfl⟩ rfl (fun v' h' hv => ?_)
  obtain ⟨rfl, J1, p1, rfl, hz1, hf1⟩ := hv
  rcases hr : (seqP T e (atomR T e 5) 20 2004) b o with ⟨z, b1, o1⟩
  rw [seqP_of hr]
  rw [hr] at hz1 hf1 g0
  cases z with
  | false =>
    refine a_if_ne rfl (fun z => absurd rfl z) (fun _ => ?_)
    refine a_s rfl rfl ?_
    rw [if_neg (by decide)]
    exact a_zret rfl rfl rfl (QF.no (hf1 rfl).1 (hf1 rfl).2)
  | true =>
  refine a_if_ne rfl (fun _ => ?_) (fun z => absurd (show (1 : Int32) = 0 from z) (by decide))
  rw [if_pos rfl]
  obtain ⟨-, -, g3⟩ := g0
  have g3 : b < b1 ∧ o1.length + b ≤ o.length + b1 := g3 rfl
  generalize hR : loopP T e (seqP T e (atomR T e 5) 20 2004) 19 2005 b1 o1 = R
  refine a_inv (n := e - b1) (fun m ls h => ls = [some (.ref 420)] ∧ ∃ J p' b' o', h = hp J L w1 w2 t ∧ Cf T e n0 b' o' I J p' ∧ o'.length < b' ∧ loopP T e (seqP T e (atomR T e 5) 20 2004) 19 2005 b' o' = R ∧ m = e - b') ⟨rfl, J1, p1, _, _, rfl, hz1 rfl, by show o1.length < b1; omega, hR, rfl⟩ ?_
  rintro m _ _ ⟨rfl, J, p', b', o', rfl, C, hB', es, hm⟩ ih
  have eT := Cf.tt C hT
  refine a_l0 rfl rfl rfl ?_
  refine a_ldcs (q := 130 + 19) rfl (hw.ld (i := 19) (by decide)) ?_
  refine a_gV rfl lX12_128 mo_X12_passes (h_passes (b := b') (k := 19) hw (by decide) (Cf.pp C) (by rw [eT]; exact Cf.nb C)) rfl rfl rfl ⟨12, _, rfl, rfl, rfl⟩ rfl (fun v' h' hv => ?_)
  obtain ⟨rfl, J2, rfl, h2⟩ := hv
  rw [eT] at h2 ⊢
  cases cw : isWd T e b' 19 with
  | false =>
    refine a_if_eq rfl (fun _ => ?_) (fun z => absurd rfl z)
    rw [if_neg (by rw [cw]; decide)] at h2
    refine a_s rfl rfl ?_
    rw [← es, loopP_f cw]
    exact a_zret rfl rfl rfl (QF.yes (Cf.rd C h2 (Cf.sk C)))
  | true =>
    refine a_if_eq rfl (fun z => absurd z (by decide)) (fun _ => ?_)
    rw [if_pos cw] at h2
    have n2 := nx_lt (T := T) (isWd_lt cw)
    have C2 : Cf T e n0 (nx T e b') o' I J2 (en T e b') := Cf.rd C h2 rfl
    have n2e := Cf.le C2
    have g4 := seqA_gd (T := T) (D := 5) (o := o') n2e
    refine a_l0 rfl rfl rfl ?_
    refine a_gV rfl lX12_213 mo_X12_readAllOf (h_readAllOf_1 hw hbt (Cf.tt C2 hT) (Cf.d C2 hd) (Cf.rf C2) (by omega)) rfl rfl rfl ⟨12, _, rfl, rfl, rfl⟩ rfl (fun v' h' hv => ?_)
    obtain ⟨rfl, J3, p3, rfl, hz3, hf3⟩ := hv
    have el := fun g => loopP_t (op := 2005) (o := o') (item := seqP T e (atomR T e 5) 20 2004) cw g
    have en' := loopP_n (op := 2005) (o := o') (item := seqP T e (atomR T e 5) 20 2004) cw
    rcases hr2 : (seqP T e (atomR T e 5) 20 2004) (nx T e b') o' with ⟨z2, b2, o2⟩
    rw [hr2] at hz3 hf3 g4 el en'
    cases z2 with
    | false =>
      refine a_if_ne rfl (fun z => absurd rfl z) (fun _ => ?_)
      refine a_s rfl rfl ?_
      rw [← es, en' Bool.false_ne_true]
      exact a_zret rfl rfl rfl (Cf.no C2 (hf3 rfl).1 (hf3 rfl).2)
    | true =>
      refine a_if_ne rfl (fun _ => ?_) (fun z => absurd (show (1 : Int32) = 0 from z) (by decide))
      have C3 : Cf T e n0 b2 o2 I J3 p3 := Cf.cc C2 (hz3 rfl)
      have c3e := Cf.le C3
      obtain ⟨-, -, g5⟩ := g4
      have g5 : nx T e b' < b2 ∧ o2.length + nx T e b' ≤ o'.length + b2 := g5 rfl
      have es2 : loopP T e (seqP T e (atomR T e 5) 20 2004) 19 2005 b2 (2005 :: o2) = R := (el (by show b' < b2; omega) rfl).symm.trans es
      refine a_l0 rfl rfl rfl ?_
      refine a_s rfl rfl ?_
      refine a_s rfl rfl ?_
      refine a_eV0 rfl lX12_180 mo_X12_emits (r_X12_emits (Cf.st C3) (by omega)) rfl rfl rfl ⟨12, _, rfl, rfl, rfl⟩ rfl ?_
      refine a_goto rfl ?_
      exact ih (e - b2) _ _ (by omega) ⟨rfl, _, p3, b2, _, rfl, Cf.em (z := 2005) C3 (by decide) (by decide), by show o2.length + 1 < b2; omega, es2, rfl⟩
theorem h_readAtom_0 (hw : WdS S) (hbt : BtT T) (hT : I 426 = T) (hd : I 420 13 = nI 0) (h : Cf T e n0 b o I I p) (hB : o.length < b) : Sp S m_X12_readAtom 38 0 0 [.ref 420] (hp I L w1 w2 t) (QF T e n0 (atomR T e 6 b o) I L w1 w2 t) nX := by
  have he4 := Cf.e4 h
  have hbe := Cf.le h
  refine Sp_of ok_X12_readAtom rfl rfl ?_
  show AW S m_X12_readAtom 38 _ _ 0 0 0 [some (.ref 420), none] [] (hp I L w1 w2 t)
  refine a_l0 rfl rfl rfl ?_
  refine a_s rfl rfl ?_
  refine a_gV rfl lX12_187 mo_X12_sign (h_sign (b := b) (c := 40) (by rw [hT]; exact hbt) (by decide) (Cf.pp h) (by rw [hT]; exact Cf.nb h)) rfl rfl rfl ⟨12, _, rfl, rfl, rfl⟩ rfl (fun v' h' hv => ?_)
  obtain ⟨rfl, J1, rfl, h1⟩ := hv
  rw [hT] at h1 ⊢
  cases c40 : sg T e b (nI 40) with
  | true =>
    have c40 : sg T e b 40 = true := c40
    refine a_if_eq rfl (fun z => absurd z (by decide)) (fun _ => ?_)
    rw [if_pos (show sg T e b (nI 40) = true from c40)] at h1
    have n1 := nx_lt (T := T) (sg_lt c40)
    have C1 : Cf T e n0 (nx T e b) o I J1 (en T e b) := Cf.rd h h1 rfl
    refine a_l0 rfl rfl rfl ?_
    refine a_geti rfl gfX12_194_12 rfl ?_
    refine a_top (y := nI 0) (Cf.d C1 hd) ?_
    refine a_s rfl rfl ?_
    refine a_ic_ne rfl (fun _ => ?_) (fun c => absurd c (by decide))
    refine a_l0 rfl rfl rfl ?_
    refine a_s rfl rfl ?_
    refine a_geti rfl gfX12_194_12 rfl ?_
    refine a_top (y := nI 0) (Cf.d C1 hd) ?_
    refine a_s rfl rfl ?_
    refine a_s rfl rfl ?_
    refine a_top (y := nI 1) (rfl) ?_
    refine a_puti rfl pfX12_194_12 rfl ?_
    refine a_l0 rfl rfl rfl ?_
    have g4 := cndP_gd (T := T) (fun b o h => atomR_gd (T := T) 5 b o h) (o := o) (Cf.le C1)
    refine a_gV rfl lX12_197 mo_X12_readCond (h_readCond_1 hw hbt ((up2_row (by decide)).trans (Cf.tt C1 hT)) up2_at (Cf.up13 C1) (by omega)) rfl rfl rfl ⟨12, _, rfl, rfl, rfl⟩ rfl (fun v' h' hv => ?_)
    obtain ⟨rfl, J9, p9, rfl, hz9, hf9⟩ := hv
    rw [show seqP T e (seqP T e (atomR T e 5) 20 2004) 19 2005 = cndP T e (atomR T e 5) from rfl] at hz9 hf9 ⊢
    rcases hr9 : cndP T e (atomR T e 5) (nx T e b) o with ⟨z9, b9, o9⟩
    rw [hr9] at hz9 hf9 g4
    rw [atomR_p c40 hr9]
    cases z9 with
    | false =>
      refine a_if_ne rfl (fun z => absurd rfl z) (fun _ => ?_)
      refine a_s rfl rfl ?_
      rw [if_neg (by decide)]
      exact a_zret rfl rfl rfl (QF.no (Fm.tr C1.1 (Fm.tr (Fm.up Fm.rf rfl) (hf9 rfl).1)) (hf9 rfl).2)
    | true =>
      refine a_if_ne rfl (fun _ => ?_) (fun z => absurd (show (1 : Int32) = 0 from z) (by decide))
      rw [if_pos rfl]
      have D9 : Cf T e n0 b9 o9 (up2 J1 420 13 (nI 1)) J9 p9 := hz9 rfl
      refine a_l0 rfl rfl rfl ?_
      refine a_s rfl rfl ?_
      refine a_geti rfl gfX12_194_12 rfl ?_
      refine a_top (y := nI 1) (D9.2.1.trans up2_at) ?_
      refine a_s rfl rfl ?_
      refine a_s rfl rfl ?_
      refine a_top (y := nI 0) (rfl) ?_
      refine a_puti rfl pfX12_194_12 rfl ?_
      have C9 := Cf.deep C1 hd D9
      have eT9 := Cf.tt C9 hT
      refine a_l0 rfl rfl rfl ?_
      refine a_s rfl rfl ?_
      refine a_gV rfl lX12_187 mo_X12_sign (h_sign (b := b9) (c := 41) (by rw [eT9]; exact hbt) (by decide) (Cf.pp C9) (by rw [eT9]; exact Cf.nb C9)) rfl rfl rfl ⟨12, _, rfl, rfl, rfl⟩ rfl (fun v' h' hv => ?_)
      obtain ⟨rfl, J3, rfl, h3⟩ := hv
      rw [eT9] at h3 ⊢
      cases c41 : sg T e b9 (nI 41) with
      | false =>
        have c41 : sg T e b9 41 = false := c41
        rw [if_neg (by rw [show sg T e b9 (nI 41) = false from c41]; decide)] at h3
        rw [if_neg (by rw [c41]; decide)]
        exact a_zret rfl rfl rfl (QF.no (Fm.tr C9.1 (Fm.mo (Rd.fm h3) sR_sY)) (Rd.be h3))
      | true =>
        have c41 : sg T e b9 41 = true := c41
        rw [if_pos (show sg T e b9 (nI 41) = true from c41)] at h3
        rw [if_pos c41]
        exact a_zret rfl rfl rfl (QF.yes (Cf.rd C9 h3 rfl))
  | false =>
  have c40 : sg T e b 40 = false := c40
  refine a_if_eq rfl (fun _ => ?_) (fun z => absurd rfl z)
  rw [if_neg (by rw [show sg T e b (nI 40) = false from c40]; decide)] at h1
  have C0 : Cf T e n0 b o I J1 b := Cf.rd h h1 (Cf.sk h)
  have eT0 := Cf.tt C0 hT
  refine a_l0 rfl rfl rfl ?_
  refine a_ldcs (q := 130 + 21) rfl (hw.ld (i := 21) (by decide)) ?_
  refine a_gV rfl lX12_128 mo_X12_passes (h_passes (b := b) (k := 21) hw (by decide) (Cf.pp C0) (by rw [eT0]; exact Cf.nb C0)) rfl rfl rfl ⟨12, _, rfl, rfl, rfl⟩ rfl (fun v' h' hv => ?_)
  obtain ⟨rfl, J2, rfl, h2⟩ := hv
  rw [eT0] at h2 ⊢
  cases c21 : isWd T e b 21 with
  | true =>
    refine a_if_eq rfl (fun z => absurd z (by decide)) (fun _ => ?_)
    rw [if_pos c21] at h2
    have n1 := nx_lt (T := T) (isWd_lt c21)
    have C2 : Cf T e n0 (nx T e b) o I J2 (en T e b) := Cf.rd C0 h2 rfl
    refine a_l0 rfl rfl rfl ?_
    refine a_geti rfl gfX12_194_12 rfl ?_
    refine a_top (y := nI 0) (Cf.d C2 hd) ?_
    refine a_s rfl rfl ?_
    refine a_ic_ne rfl (fun _ => ?_) (fun c => absurd c (by decide))
    refine a_l0 rfl rfl rfl ?_
    refine a_s rfl rfl ?_
    refine a_geti rfl gfX12_194_12 rfl ?_
    refine a_top (y := nI 0) (Cf.d C2 hd) ?_
    refine a_s rfl rfl ?_
    refine a_s rfl rfl ?_
    refine a_top (y := nI 1) (rfl) ?_
    refine a_puti rfl pfX12_194_12 rfl ?_
    refine a_l0 rfl rfl rfl ?_
    have g4 := atomR_gdo (T := T) (D := 5) (o := o) (Cf.le C2)
    refine a_gV rfl lX12_202 mo_X12_readAtom (h_readAtom_1 hw hbt ((up2_row (by decide)).trans (Cf.tt C2 hT)) up2_at (Cf.up13 C2) (by omega)) rfl rfl rfl ⟨12, _, rfl, rfl, rfl⟩ rfl (fun v' h' hv => ?_)
    obtain ⟨rfl, J9, p9, rfl, hz9, hf9⟩ := hv
    rcases hr9 : atomR T e 5 (nx T e b) o with ⟨z9, b9, o9⟩
    rw [hr9] at hz9 hf9 g4
    rw [atomR_n c40 c21 hr9]
    cases z9 with
    | false =>
      refine a_if_ne rfl (fun z => absurd rfl z) (fun _ => ?_)
      refine a_s rfl rfl ?_
      rw [if_neg (by decide)]
      exact a_zret rfl rfl rfl (QF.no (Fm.tr C2.1 (Fm.tr (Fm.up Fm.rf rfl) (hf9 rfl).1)) (hf9 rfl).2)
    | true =>
      refine a_if_ne rfl (fun _ => ?_) (fun z => absurd (show (1 : Int32) = 0 from z) (by decide))
      rw [if_pos rfl]
      have D9 : Cf T e n0 b9 o9 (up2 J2 420 13 (nI 1)) J9 p9 := hz9 rfl
      obtain ⟨-, -, g5⟩ := g4
      have g5 : nx T e b < b9 ∧ o9.length + nx T e b ≤ o.length + b9 := g5 rfl
      have c9e := Cf.le D9
      refine a_l0 rfl rfl rfl ?_
      refine a_s rfl rfl ?_
      refine a_geti rfl gfX12_194_12 rfl ?_
      refine a_top (y := nI 1) (D9.2.1.trans up2_at) ?_
      refine a_s rfl rfl ?_
      refine a_s rfl rfl ?_
      refine a_top (y := nI 0) (rfl) ?_
      refine a_puti rfl pfX12_194_12 rfl ?_
      have C9 := Cf.deep C2 hd D9
      refine a_l0 rfl rfl rfl ?_
      refine a_s rfl rfl ?_
      refine a_s rfl rfl ?_
      refine a_eV0 rfl lX12_180 mo_X12_emits (r_X12_emits (Cf.st C9) (by omega)) rfl rfl rfl ⟨12, _, rfl, rfl, rfl⟩ rfl ?_
      refine a_s rfl rfl ?_
      exact a_zret rfl rfl rfl (QF.yes (Cf.em (z := 2003) C9 (by decide) (by decide)))
  | false =>
  refine a_if_eq rfl (fun _ => ?_) (fun z => absurd rfl z)
  rw [if_neg (by rw [c21]; decide)] at h2
  have C2 : Cf T e n0 b o I J2 b := Cf.rd C0 h2 (Cf.sk C0)
  rw [atomR_b c40 c21]
  refine a_l0 rfl rfl rfl ?_
  refine a_gV rfl lX12_205 mo_X12_readTag (h_readTag hw (Cf.tt C2 hT) (Cf.rf C2) hB) rfl rfl rfl ⟨12, _, rfl, rfl, rfl⟩ rfl (fun v' h' hv => ?_)
  obtain ⟨z3, x3, J3, p3, rfl, rfl, ht3, hf3⟩ := hv
  cases z3 with
  | true =>
    refine a_if_eq rfl (fun z => absurd z (by decide)) (fun _ => ?_)
    refine a_s rfl rfl ?_
    obtain ⟨hx, D3⟩ := ht3 rfl
    rcases hx with ⟨c22, rfl⟩ | ⟨c22, c23, rfl⟩
    · rw [show baseP T e b o = (true, nx T e b, 1007 :: o) from if_pos c22]
      exact a_zret rfl rfl rfl (QF.yes (Cf.cc C2 D3))
    · rw [show baseP T e b o = (true, nx T e b, 1008 :: o) from (if_neg (by rw [c22]; decide)).trans (if_pos c23)]
      exact a_zret rfl rfl rfl (QF.yes (Cf.cc C2 D3))
  | false =>
  refine a_if_eq rfl (fun _ => ?_) (fun z => absurd rfl z)
  obtain ⟨⟨c22, c23⟩, D3⟩ := hf3 rfl
  have C3 := Cf.cc C2 D3
  have g4 := sumP_gd (T := T) (o := o) hbe
  refine a_l0 rfl rfl rfl ?_
  refine a_gV rfl lX12_208 mo_X12_readSum (h_readSum hw hbt (Cf.tt C3 hT) (Cf.rf C3) hB) rfl rfl rfl ⟨12, _, rfl, rfl, rfl⟩ rfl (fun v' h' hv => ?_)
  obtain ⟨rfl, J4, p4, rfl, hz4, hf4⟩ := hv
  rcases hr4 : sumP T e b o with ⟨z4, b4, o4⟩
  rw [baseP_s c22 c23 hr4]
  rw [hr4] at hz4 hf4 g4
  cases z4 with
  | false =>
    refine a_if_ne rfl (fun z => absurd rfl z) (fun _ => ?_)
    refine a_s rfl rfl ?_
    rw [if_neg (by decide)]
    exact a_zret rfl rfl rfl (Cf.no C3 (hf4 rfl).1 (hf4 rfl).2)
  | true =>
  refine a_if_ne rfl (fun _ => ?_) (fun z => absurd (show (1 : Int32) = 0 from z) (by decide))
  rw [if_pos rfl]
  have C4 : Cf T e n0 b4 o4 I J4 p4 := Cf.cc C3 (hz4 rfl)
  obtain ⟨-, -, g4⟩ := g4
  have g4 : b < b4 ∧ o4.length + b ≤ o.length + b4 := g4 rfl
  have key : ∀ {z5 : Bool} {x : Int32} {p' : Nat} {J : Nat → Nat → Int32}, b4 < nx T e b4 → x = (if z5 = true then 2001 else 2002) → Cf T e n0 (nx T e b4) o4 I J p' → AW S m_X12_readAtom 38 (QF T e n0 (cmpP T e x (nx T e b4) o4) I L w1 w2 t) nX 0 0 152 [some (.ref 420), some (.int (bI z5))] [] (hp J L w1 w2 t) := by
    intro z5 x p' J n4 hx C
    have g6 := sumP_gd (T := T) (o := o4) (Cf.le C)
    refine a_l0 rfl rfl rfl ?_
    refine a_gV rfl lX12_208 mo_X12_readSum (h_readSum hw hbt (Cf.tt C hT) (Cf.rf C) (by omega)) rfl rfl rfl ⟨12, _, rfl, rfl, rfl⟩ rfl (fun v' h' hv => ?_)
    obtain ⟨rfl, J6, p6, rfl, hz6, hf6⟩ := hv
    rcases hr6 : sumP T e (nx T e b4) o4 with ⟨z6, b6, o6⟩
    rw [hr6] at hz6 hf6 g6
    cases z6 with
    | false =>
      refine a_if_ne rfl (fun z => absurd rfl z) (fun _ => ?_)
      refine a_s rfl rfl ?_
      rw [cmpP_f hr6]
      exact a_zret rfl rfl rfl (Cf.no C (hf6 rfl).1 (hf6 rfl).2)
    | true =>
      refine a_if_ne rfl (fun _ => ?_) (fun z => absurd (show (1 : Int32) = 0 from z) (by decide))
      rw [cmpP_t hr6]
      have C6 : Cf T e n0 b6 o6 I J6 p6 := Cf.cc C (hz6 rfl)
      have c6e := Cf.le C6
      obtain ⟨-, -, g6⟩ := g6
      have g6 : nx T e b4 < b6 ∧ o6.length + nx T e b4 ≤ o4.length + b6 := g6 rfl
      refine a_l0 rfl rfl rfl ?_
      refine a_l1 rfl rfl rfl ?_
      cases z5 with
      | false =>
        rw [if_neg (by decide)] at hx
        subst hx
        refine a_if_eq rfl (fun _ => ?_) (fun c => absurd rfl c)
        refine a_s rfl rfl ?_
        refine a_s rfl rfl ?_
        refine a_eV0 rfl lX12_180 mo_X12_emits (r_X12_emits (Cf.st C6) (by omega)) rfl rfl rfl ⟨12, _, rfl, rfl, rfl⟩ rfl ?_
        refine a_s rfl rfl ?_
        exact a_zret rfl rfl rfl (QF.yes (Cf.em (z := 2002) C6 (by decide) (by decide)))
      | true =>
        rw [if_pos rfl] at hx
        subst hx
        refine a_if_eq rfl (fun c => absurd c (by decide)) (fun _ => ?_)
        refine a_s rfl rfl ?_
        refine a_goto rfl ?_
        refine a_s rfl rfl ?_
        refine a_eV0 rfl lX12_180 mo_X12_emits (r_X12_emits (Cf.st C6) (by omega)) rfl rfl rfl ⟨12, _, rfl, rfl, rfl⟩ rfl ?_
        refine a_s rfl rfl ?_
        exact a_zret rfl rfl rfl (QF.yes (Cf.em (z := 2001) C6 (by decide) (by decide)))
  have eT4 := Cf.tt C4 hT
  refine a_l0 rfl rfl rfl ?_
  refine a_s rfl rfl ?_
  refine a_gV rfl lX12_187 mo_X12_sign (h_sign (b := b4) (c := 60) (by rw [eT4]; exact hbt) (by decide) (Cf.pp C4) (by rw [eT4]; exact Cf.nb C4)) rfl rfl rfl ⟨12, _, rfl, rfl, rfl⟩ rfl (fun v' h' hv => ?_)
  obtain ⟨rfl, J5, rfl, h5⟩ := hv
  rw [eT4] at h5 ⊢
  refine a_s1 rfl rfl rfl rfl rfl rfl ?_
  refine a_l1 rfl rfl rfl ?_
  cases c60 : sg T e b4 (nI 60) with
  | true =>
    have c60 : sg T e b4 60 = true := c60
    refine a_if_ne rfl (fun _ => ?_) (fun z => absurd (show (1 : Int32) = 0 from z) (by decide))
    rw [if_pos (show sg T e b4 (nI 60) = true from c60)] at h5
    rw [if_pos c60]
    exact key (z5 := true) (nx_lt (sg_lt c60)) rfl (Cf.rd C4 h5 rfl)
  | false =>
  have c60 : sg T e b4 60 = false := c60
  refine a_if_ne rfl (fun z => absurd rfl z) (fun _ => ?_)
  rw [if_neg (by rw [show sg T e b4 (nI 60) = false from c60]; decide)] at h5
  rw [if_neg (by rw [c60]; decide)]
  have C5 : Cf T e n0 b4 o4 I J5 b4 := Cf.rd C4 h5 (Cf.sk C4)
  have eT5 := Cf.tt C5 hT
  refine a_l0 rfl rfl rfl ?_
  refine a_s rfl rfl ?_
  refine a_gV rfl lX12_187 mo_X12_sign (h_sign (b := b4) (c := 62) (by rw [eT5]; exact hbt) (by decide) (Cf.pp C5) (by rw [eT5]; exact Cf.nb C5)) rfl rfl rfl ⟨12, _, rfl, rfl, rfl⟩ rfl (fun v' h' hv => ?_)
  obtain ⟨rfl, J7, rfl, h7⟩ := hv
  rw [eT5] at h7 ⊢
  cases c62 : sg T e b4 (nI 62) with
  | false =>
    have c62 : sg T e b4 62 = false := c62
    refine a_if_eq rfl (fun _ => ?_) (fun z => absurd rfl z)
    rw [if_neg (by rw [show sg T e b4 (nI 62) = false from c62]; decide)] at h7
    rw [if_neg (by rw [c62]; decide)]
    refine a_s rfl rfl ?_
    exact a_zret rfl rfl rfl (QF.no (Fm.tr C5.1 (Fm.mo (Rd.fm h7) sR_sY)) (Rd.be h7))
  | true =>
    have c62 : sg T e b4 62 = true := c62
    refine a_if_eq rfl (fun z => absurd z (by decide)) (fun _ => ?_)
    rw [if_pos (show sg T e b4 (nI 62) = true from c62)] at h7
    rw [if_pos c62]
    exact key (z5 := false) (nx_lt (sg_lt c62)) rfl (Cf.rd C5 h7 rfl)
theorem h_readAllOf_0 (hw : WdS S) (hbt : BtT T) (hT : I 426 = T) (hd : I 420 13 = nI 0) (h : Cf T e n0 b o I I p) (hB : o.length < b) : Sp S m_X12_readAllOf 39 0 0 [.ref 420] (hp I L w1 w2 t) (QF T e n0 (seqP T e (atomR T e 6) 20 2004 b o) I L w1 w2 t) nX := by
  have he4 := Cf.e4 h
  have g0 := atomR_gdo (T := T) (D := 6) (o := o) (Cf.le h)
  refine Sp_of ok_X12_readAllOf rfl rfl ?_
  show AW S m_X12_readAllOf 39 _ _ 0 0 0 [some (.ref 420)] [] (hp I L w1 w2 t)
  refine a_l0 rfl rfl rfl ?_
  refine a_gV rfl lX12_202 mo_X12_readAtom (h_readAtom_0 hw hbt hT hd h hB) rfl rfl rfl ⟨12, _, rfl, rfl, rfl⟩ rfl (fun v' h' hv => ?_)
  obtain ⟨rfl, J1, p1, rfl, hz1, hf1⟩ := hv
  rcases hr : (atomR T e 6) b o with ⟨z, b1, o1⟩
  rw [seqP_of hr]
  rw [hr] at hz1 hf1 g0
  cases z with
  | false =>
    refine a_if_ne rfl (fun z => absurd rfl z) (fun _ => ?_)
    refine a_s rfl rfl ?_
    rw [if_neg (by decide)]
    exact a_zret rfl rfl rfl (QF.no (hf1 rfl).1 (hf1 rfl).2)
  | true =>
  refine a_if_ne rfl (fun _ => ?_) (fun z => absurd (show (1 : Int32) = 0 from z) (by decide))
  rw [if_pos rfl]
  obtain ⟨-, -, g3⟩ := g0
  have g3 : b < b1 ∧ o1.length + b ≤ o.length + b1 := g3 rfl
  generalize hR : loopP T e (atomR T e 6) 20 2004 b1 o1 = R
  refine a_inv (n := e - b1) (fun m ls h => ls = [some (.ref 420)] ∧ ∃ J p' b' o', h = hp J L w1 w2 t ∧ Cf T e n0 b' o' I J p' ∧ o'.length < b' ∧ loopP T e (atomR T e 6) 20 2004 b' o' = R ∧ m = e - b') ⟨rfl, J1, p1, _, _, rfl, hz1 rfl, by show o1.length < b1; omega, hR, rfl⟩ ?_
  rintro m _ _ ⟨rfl, J, p', b', o', rfl, C, hB', es, hm⟩ ih
  have eT := Cf.tt C hT
  refine a_l0 rfl rfl rfl ?_
  refine a_ldcs (q := 130 + 20) rfl (hw.ld (i := 20) (by decide)) ?_
  refine a_gV rfl lX12_128 mo_X12_passes (h_passes (b := b') (k := 20) hw (by decide) (Cf.pp C) (by rw [eT]; exact Cf.nb C)) rfl rfl rfl ⟨12, _, rfl, rfl, rfl⟩ rfl (fun v' h' hv => ?_)
  obtain ⟨rfl, J2, rfl, h2⟩ := hv
  rw [eT] at h2 ⊢
  cases cw : isWd T e b' 20 with
  | false =>
    refine a_if_eq rfl (fun _ => ?_) (fun z => absurd rfl z)
    rw [if_neg (by rw [cw]; decide)] at h2
    refine a_s rfl rfl ?_
    rw [← es, loopP_f cw]
    exact a_zret rfl rfl rfl (QF.yes (Cf.rd C h2 (Cf.sk C)))
  | true =>
    refine a_if_eq rfl (fun z => absurd z (by decide)) (fun _ => ?_)
    rw [if_pos cw] at h2
    have n2 := nx_lt (T := T) (isWd_lt cw)
    have C2 : Cf T e n0 (nx T e b') o' I J2 (en T e b') := Cf.rd C h2 rfl
    have n2e := Cf.le C2
    have g4 := atomR_gdo (T := T) (D := 6) (o := o') n2e
    refine a_l0 rfl rfl rfl ?_
    refine a_gV rfl lX12_202 mo_X12_readAtom (h_readAtom_0 hw hbt (Cf.tt C2 hT) (Cf.d C2 hd) (Cf.rf C2) (by omega)) rfl rfl rfl ⟨12, _, rfl, rfl, rfl⟩ rfl (fun v' h' hv => ?_)
    obtain ⟨rfl, J3, p3, rfl, hz3, hf3⟩ := hv
    have el := fun g => loopP_t (op := 2004) (o := o') (item := atomR T e 6) cw g
    have en' := loopP_n (op := 2004) (o := o') (item := atomR T e 6) cw
    rcases hr2 : (atomR T e 6) (nx T e b') o' with ⟨z2, b2, o2⟩
    rw [hr2] at hz3 hf3 g4 el en'
    cases z2 with
    | false =>
      refine a_if_ne rfl (fun z => absurd rfl z) (fun _ => ?_)
      refine a_s rfl rfl ?_
      rw [← es, en' Bool.false_ne_true]
      exact a_zret rfl rfl rfl (Cf.no C2 (hf3 rfl).1 (hf3 rfl).2)
    | true =>
      refine a_if_ne rfl (fun _ => ?_) (fun z => absurd (show (1 : Int32) = 0 from z) (by decide))
      have C3 : Cf T e n0 b2 o2 I J3 p3 := Cf.cc C2 (hz3 rfl)
      have c3e := Cf.le C3
      obtain ⟨-, -, g5⟩ := g4
      have g5 : nx T e b' < b2 ∧ o2.length + nx T e b' ≤ o'.length + b2 := g5 rfl
      have es2 : loopP T e (atomR T e 6) 20 2004 b2 (2004 :: o2) = R := (el (by show b' < b2; omega) rfl).symm.trans es
      refine a_l0 rfl rfl rfl ?_
      refine a_s rfl rfl ?_
      refine a_s rfl rfl ?_
      refine a_eV0 rfl lX12_180 mo_X12_emits (r_X12_emits (Cf.st C3) (by omega)) rfl rfl rfl ⟨12, _, rfl, rfl, rfl⟩ rfl ?_
      refine a_goto rfl ?_
      exact ih (e - b2) _ _ (by omega) ⟨rfl, _, p3, b2, _, rfl, Cf.em (z := 2004) C3 (by decide) (by decide), by show o2.length + 1 < b2; omega, es2, rfl⟩
theorem h_readCond_0 (hw : WdS S) (hbt : BtT T) (hT : I 426 = T) (hd : I 420 13 = nI 0) (h : Cf T e n0 b o I I p) (hB : o.length < b) : Sp S m_X12_readCond 40 0 0 [.ref 420] (hp I L w1 w2 t) (QF T e n0 (seqP T e (seqP T e (atomR T e 6) 20 2004) 19 2005 b o) I L w1 w2 t) nX := by
  have he4 := Cf.e4 h
  have g0 := seqA_gd (T := T) (D := 6) (o := o) (Cf.le h)
  refine Sp_of ok_X12_readCond rfl rfl ?_
  show AW S m_X12_readCond 40 _ _ 0 0 0 [some (.ref 420)] [] (hp I L w1 w2 t)
  refine a_l0 rfl rfl rfl ?_
  refine a_gV rfl lX12_213 mo_X12_readAllOf (h_readAllOf_0 hw hbt hT hd h hB) rfl rfl rfl ⟨12, _, rfl, rfl, rfl⟩ rfl (fun v' h' hv => ?_)
  obtain ⟨rfl, J1, p1, rfl, hz1, hf1⟩ := hv
  rcases hr : (seqP T e (atomR T e 6) 20 2004) b o with ⟨z, b1, o1⟩
  rw [seqP_of hr]
  rw [hr] at hz1 hf1 g0
  cases z with
  | false =>
    refine a_if_ne rfl (fun z => absurd rfl z) (fun _ => ?_)
    refine a_s rfl rfl ?_
    rw [if_neg (by decide)]
    exact a_zret rfl rfl rfl (QF.no (hf1 rfl).1 (hf1 rfl).2)
  | true =>
  refine a_if_ne rfl (fun _ => ?_) (fun z => absurd (show (1 : Int32) = 0 from z) (by decide))
  rw [if_pos rfl]
  obtain ⟨-, -, g3⟩ := g0
  have g3 : b < b1 ∧ o1.length + b ≤ o.length + b1 := g3 rfl
  generalize hR : loopP T e (seqP T e (atomR T e 6) 20 2004) 19 2005 b1 o1 = R
  refine a_inv (n := e - b1) (fun m ls h => ls = [some (.ref 420)] ∧ ∃ J p' b' o', h = hp J L w1 w2 t ∧ Cf T e n0 b' o' I J p' ∧ o'.length < b' ∧ loopP T e (seqP T e (atomR T e 6) 20 2004) 19 2005 b' o' = R ∧ m = e - b') ⟨rfl, J1, p1, _, _, rfl, hz1 rfl, by show o1.length < b1; omega, hR, rfl⟩ ?_
  rintro m _ _ ⟨rfl, J, p', b', o', rfl, C, hB', es, hm⟩ ih
  have eT := Cf.tt C hT
  refine a_l0 rfl rfl rfl ?_
  refine a_ldcs (q := 130 + 19) rfl (hw.ld (i := 19) (by decide)) ?_
  refine a_gV rfl lX12_128 mo_X12_passes (h_passes (b := b') (k := 19) hw (by decide) (Cf.pp C) (by rw [eT]; exact Cf.nb C)) rfl rfl rfl ⟨12, _, rfl, rfl, rfl⟩ rfl (fun v' h' hv => ?_)
  obtain ⟨rfl, J2, rfl, h2⟩ := hv
  rw [eT] at h2 ⊢
  cases cw : isWd T e b' 19 with
  | false =>
    refine a_if_eq rfl (fun _ => ?_) (fun z => absurd rfl z)
    rw [if_neg (by rw [cw]; decide)] at h2
    refine a_s rfl rfl ?_
    rw [← es, loopP_f cw]
    exact a_zret rfl rfl rfl (QF.yes (Cf.rd C h2 (Cf.sk C)))
  | true =>
    refine a_if_eq rfl (fun z => absurd z (by decide)) (fun _ => ?_)
    rw [if_pos cw] at h2
    have n2 := nx_lt (T := T) (isWd_lt cw)
    have C2 : Cf T e n0 (nx T e b') o' I J2 (en T e b') := Cf.rd C h2 rfl
    have n2e := Cf.le C2
    have g4 := seqA_gd (T := T) (D := 6) (o := o') n2e
    refine a_l0 rfl rfl rfl ?_
    refine a_gV rfl lX12_213 mo_X12_readAllOf (h_readAllOf_0 hw hbt (Cf.tt C2 hT) (Cf.d C2 hd) (Cf.rf C2) (by omega)) rfl rfl rfl ⟨12, _, rfl, rfl, rfl⟩ rfl (fun v' h' hv => ?_)
    obtain ⟨rfl, J3, p3, rfl, hz3, hf3⟩ := hv
    have el := fun g => loopP_t (op := 2005) (o := o') (item := seqP T e (atomR T e 6) 20 2004) cw g
    have en' := loopP_n (op := 2005) (o := o') (item := seqP T e (atomR T e 6) 20 2004) cw
    rcases hr2 : (seqP T e (atomR T e 6) 20 2004) (nx T e b') o' with ⟨z2, b2, o2⟩
    rw [hr2] at hz3 hf3 g4 el en'
    cases z2 with
    | false =>
      refine a_if_ne rfl (fun z => absurd rfl z) (fun _ => ?_)
      refine a_s rfl rfl ?_
      rw [← es, en' Bool.false_ne_true]
      exact a_zret rfl rfl rfl (Cf.no C2 (hf3 rfl).1 (hf3 rfl).2)
    | true =>
      refine a_if_ne rfl (fun _ => ?_) (fun z => absurd (show (1 : Int32) = 0 from z) (by decide))
      have C3 : Cf T e n0 b2 o2 I J3 p3 := Cf.cc C2 (hz3 rfl)
      have c3e := Cf.le C3
      obtain ⟨-, -, g5⟩ := g4
      have g5 : nx T e b' < b2 ∧ o2.length + nx T e b' ≤ o'.length + b2 := g5 rfl
      have es2 : loopP T e (seqP T e (atomR T e 6) 20 2004) 19 2005 b2 (2005 :: o2) = R := (el (by show b' < b2; omega) rfl).symm.trans es
      refine a_l0 rfl rfl rfl ?_
      refine a_s rfl rfl ?_
      refine a_s rfl rfl ?_
      refine a_eV0 rfl lX12_180 mo_X12_emits (r_X12_emits (Cf.st C3) (by omega)) rfl rfl rfl ⟨12, _, rfl, rfl, rfl⟩ rfl ?_
      refine a_goto rfl ?_
      exact ih (e - b2) _ _ (by omega) ⟨rfl, _, p3, b2, _, rfl, Cf.em (z := 2005) C3 (by decide) (by decide), by show o2.length + 1 < b2; omega, es2, rfl⟩
end T79h
end
section
/-! ===== the reference: a law's line, all lines, a law, as functions ===== -/
section T79i
variable {S : aS} {I : Nat → Nat → Int32} {L : Nat → Nat → Int64} {w1 w2 t : Nat} {e p b n0 nd np : Nat} {T : Nat → Int32} {o : List Int32} {ls : List LnT}
set_option maxRecDepth 100000
/-- lines of the draft, the latest first -/
def LnW (W : Nat → Int32) : List LnT → Prop
  | [] => True
  | x :: r => (W (1185 + 4 * r.length) = x.1 ∧ W (1185 + 4 * r.length + 1) = x.2.1 ∧ W (1185 + 4 * r.length + 2) = nI x.2.2.1 ∧ W (1185 + 4 * r.length + 3) = nI x.2.2.2) ∧ LnW W r
theorem LnW.eq {W W' : Nat → Int32} : ∀ {r : List LnT}, LnW W r → (∀ k, 1185 ≤ k → k < 1185 + 4 * r.length → W' k = W k) → LnW W' r := by
  intro r
  induction r with
  | nil => exact fun _ _ => trivial
  | cons x r ih =>
    intro h f
    have f : ∀ k, 1185 ≤ k → k < 1185 + 4 * (r.length + 1) → W' k = W k := f
    obtain ⟨⟨h1, h2, h3, h4⟩, h5⟩ := h
    exact ⟨⟨(f _ (by omega) (by omega)).trans h1, (f _ (by omega) (by omega)).trans h2, (f _ (by omega) (by omega)).trans h3, (f _ (by omega) (by omega)).trans h4⟩, ih h5 fun k g1 g2 => f k g1 (by omega)⟩
theorem LnW.at {W : Nat → Int32} : ∀ {r : List LnT}, LnW W r → ∀ i, i < r.length → W (1185 + 4 * i) = (lnAt r i).1 ∧ W (1185 + 4 * i + 1) = (lnAt r i).2.1 ∧ W (1185 + 4 * i + 2) = nI (lnAt r i).2.2.1 ∧ W (1185 + 4 * i + 3) = nI (lnAt r i).2.2.2 := by
  intro r
  induction r with
  | nil => exact fun _ i hi => absurd hi (Nat.not_lt_zero _)
  | cons x r ih =>
    intro h i hi
    have hi : i < r.length + 1 := hi
    by_cases c : i = r.length
    · rw [show lnAt (x :: r) i = x from if_pos c, c]
      exact h.1
    · rw [show lnAt (x :: r) i = lnAt r i from if_neg c]
      exact ih h.2 i (by omega)
theorem RowS.at {W : Nat → Int32} : ∀ {r : List Int32}, RowS W r → ∀ i, i < r.length → W (1233 + 2 * i) = stF (cdL r i) ∧ W (1233 + 2 * i + 1) = snF (cdL r i) := by
  intro r
  induction r with
  | nil => exact fun _ i hi => absurd hi (Nat.not_lt_zero _)
  | cons x r ih =>
    intro h i hi
    have hi : i < r.length + 1 := hi
    by_cases c : i = r.length
    · rw [show cdL (x :: r) i = x from if_pos c, c]
      exact h.1
    · rw [show cdL (x :: r) i = cdL r i from if_neg c]
      exact ih h.2 i (by omega)
theorem LD_of {W : Nat → Int32} (h1 : RowS W o) (h2 : LnW W ls) (h3 : LsOk o ls) : LD ls.length o.length W := by
  obtain ⟨g1, g2⟩ := h3
  have hc : ∀ i, i < o.length → ∃ k m, k ≤ 15 ∧ m < 1000 ∧ W (1233 + 2 * i) = nI k ∧ W (1233 + 2 * i + 1) = nI m ∧ cdN o i = trN k m := fun i hi => by
    obtain ⟨k, m, a1, a2, a3, a4, a5, -⟩ := okC_st (cdL_ok g1 i hi)
    obtain ⟨r1, r2⟩ := RowS.at h1 i hi
    exact ⟨k, m, a1, a2, r1.trans a3, r2.trans a4, a5⟩
  refine ⟨fun i hi => ?_, fun i hi => ?_⟩
  · obtain ⟨k, m, a1, a2, a3, a4, -⟩ := hc i hi
    exact ⟨k, m, a1, a2, a3, a4⟩
  · obtain ⟨-, -, l3, l4⟩ := LnW.at h2 i hi
    obtain ⟨b1, b2, b3⟩ := g2 i hi
    refine ⟨_, _, l3, l4, b1, b2, LineOk.congr b3 fun j hj => ?_⟩
    obtain ⟨k, m, a1, a2, a3, a4, a5⟩ := hc ((lnAt ls i).2.2.1 + j) (by omega)
    rw [a5]
    unfold cdD
    rw [a3, a4, nI_clamp (by omega), nI_clamp (by omega)]
/-- a draft's state between two lines: so many lines, so many codes -/
def Dl (T : Nat → Int32) (e b : Nat) (o : List Int32) (ls : List LnT) (J : Nat → Nat → Int32) (p : Nat) : Prop := Pp e p J ∧ rn T e 4 p = b ∧ J 420 16 = nI o.length ∧ RowS (J 421) o ∧ LnW (J 421) ls ∧ o.length ≤ b
theorem h_readLawLine (hw : WdS S) (hbt : BtT T) (hT : I 426 = T) (hnl : ls.length < 12) (h12 : I 420 12 = nI b) (hq : Pp e p I) (hp1 : p = rn T e 1 b) (hsk : rn T e 4 b = b) (hst : I 420 16 = nI o.length) (hrs : RowS (I 421) o) (hrl : LnW (I 421) ls) (hB : o.length ≤ b) (hbe : b ≤ e) : Sp S m_X12_readLawLine 41 0 0 [.ref 420, .int (nI ls.length)] (hp I L w1 w2 t) (fun v h' => v = some (.int (bI (lnP T e b o).1)) ∧ ∃ J p', h' = hp J L w1 w2 t ∧ Fm (sZ ls.length o.length) I J ∧ ((lnP T e b o).1 = false → J 420 12 = nI (lnP T e b o).2.1) ∧ ((lnP T e b o).1 = true → Dl T e (lnP T e b o).2.1 (lnP T e b o).2.2 (lnV T e b o (lnP T e b o).2.2 :: ls) J p')) nX := by
  have he4 := Pp.e4 hq
  have gd := lnP_gd (T := T) (o := o) hbe
  have hi : ∀ k, k < 27 → isW T b (p - b) k = isWd T e b k := fun k hk => by
    rw [hp1]
    exact isW_wd hk
  have hbp : b ≤ p := by
    rw [hp1]
    exact rn_ge
  refine Sp_of ok_X12_readLawLine rfl rfl ?_
  show AW S m_X12_readLawLine 41 _ _ 0 0 0 [some (.ref 420), some (.int (nI ls.length)), none] [] (hp I L w1 w2 t)
  refine a_s rfl rfl ?_
  refine a_s rfl rfl ?_
  refine a_l1 rfl rfl rfl ?_
  refine a_s rfl rfl ?_
  refine a_top (y := nI (4 * ls.length)) (nI_mul 4 ls.length) ?_
  refine a_s rfl rfl ?_
  refine a_top (y := nI (1185 + 4 * ls.length)) (nI_addl 1185 (4 * ls.length)) ?_
  refine a_s2 rfl rfl rfl rfl rfl rfl ?_
  refine a_l0 rfl rfl rfl ?_
  refine a_getq rfl gfX12_13_12 rfl (rfl) ?_
  refine a_l2 rfl rfl rfl ?_
  have key : AW S m_X12_readLawLine 41 (fun v h' => v = some (.int (bI (lnP T e b o).1)) ∧ ∃ J p', h' = hp J L w1 w2 t ∧ Fm (sZ ls.length o.length) I J ∧ ((lnP T e b o).1 = false → J 420 12 = nI (lnP T e b o).2.1) ∧ ((lnP T e b o).1 = true → Dl T e (lnP T e b o).2.1 (lnP T e b o).2.2 (lnV T e b o (lnP T e b o).2.2 :: ls) J p')) nX 0 0 53 [some (.ref 420), some (.int (nI ls.length)), some (.int (nI (1185 + 4 * ls.length)))] [.int (kndP T e b), .int (nI (1185 + 4 * ls.length)), .ref 421] (hp I L w1 w2 t) := by
    refine a_iastv (k := 1185 + 4 * ls.length) rfl (n := 2033) rfl (inI_nI (by omega) (by omega)) (nI_clamp (by omega)) ?_
    have f1 : Fm (sZ ls.length o.length) I (up2 I 421 (1185 + 4 * ls.length) (kndP T e b)) := Fm.up Fm.rf (sZ_in (by omega) (by omega))
    refine a_l0 rfl rfl rfl ?_
    refine a_getq rfl gfX12_13_12 rfl (rfl) ?_
    refine a_l2 rfl rfl rfl ?_
    refine a_ialdv (v := kndP T e b) rfl (n := 2033) rfl (inI_nI (by omega) (by omega)) (by rw [nI_clamp (by omega)]; exact up2_at) ?_
    by_cases c1 : kndP T e b = -1
    · rw [show lnP T e b o = (false, b, []) from if_pos c1, c1]
      refine a_if_ge rfl (fun c => absurd c (by decide)) (fun _ => ?_)
      refine a_s rfl rfl ?_
      rw [c1] at f1
      exact a_zret rfl rfl rfl ⟨rfl, _, 0, rfl, f1, fun _ => (congrFun (up2_row (by decide)) 12).trans h12, fun z => by cases z⟩
    have k1 : kd T e b = 1 ∧ ¬ kndP T e b < 0 := by
      unfold kndP at c1 ⊢
      by_cases d1 : isWd T e b 15 = true
      · rw [if_pos d1]
        exact ⟨(of_decide_eq_true d1).1, by decide⟩
      · rw [if_neg d1] at c1 ⊢
        by_cases d2 : isWd T e b 16 = true
        · rw [if_pos d2]
          exact ⟨(of_decide_eq_true d2).1, by decide⟩
        · rw [if_neg d2] at c1 ⊢
          by_cases d3 : isWd T e b 17 = true
          · rw [if_pos d3]
            exact ⟨(of_decide_eq_true d3).1, by decide⟩
          · rw [if_neg d3] at c1
            exact absurd rfl c1
    have n1 := nx_lt (T := T) (knd_lt c1)
    have n1e := nx_le (T := T) hbe
    have hpn : rn T e 4 p = nx T e b := by
      rw [hp1, ← en_1 k1.1]
      rfl
    refine a_if_ge rfl (fun _ => ?_) (fun c => absurd (Int32.not_lt.mp k1.2) c)
    refine a_l0 rfl rfl rfl ?_
    refine a_getq rfl gfX12_13_12 rfl (rfl) ?_
    refine a_l2 rfl rfl rfl ?_
    refine a_s rfl rfl ?_
    refine a_s rfl rfl ?_
    refine a_top (y := nI (1185 + 4 * ls.length + 1)) ((nI_succ _).symm) ?_
    refine a_l0 rfl rfl rfl ?_
    refine a_s rfl rfl ?_
    refine a_s rfl rfl ?_
    refine a_gV rfl lX12_113 mo_X12_number (h_number (b := nx T e b) (x := 0) (y := 60) (Pp.wd hq) (by rw [up2_row (by decide), hT]; exact hpn) (by decide)) rfl rfl rfl ⟨12, _, rfl, rfl, rfl⟩ rfl (fun v' h' hv => ?_)
    obtain ⟨rfl, J2, rfl, h2⟩ := hv
    rw [show up2 I 421 (1185 + 4 * ls.length) (kndP T e b) 426 = T from (up2_row (by decide)).trans hT] at h2 ⊢
    refine a_iastv (k := 1185 + 4 * ls.length + 1) rfl (n := 2033) rfl (inI_nI (by omega) (by omega)) (nI_clamp (by omega)) ?_
    have f3 : Fm (sZ ls.length o.length) I (up2 J2 421 (1185 + 4 * ls.length + 1) (nm T e (nx T e b) 0 60)) := Fm.up (Fm.tr f1 (Fm.mo (Rd.fm h2) sR_sZ)) (sZ_in (by omega) (by omega))
    refine a_l0 rfl rfl rfl ?_
    refine a_getq rfl gfX12_13_12 rfl (rfl) ?_
    refine a_l2 rfl rfl rfl ?_
    refine a_s rfl rfl ?_
    refine a_s rfl rfl ?_
    refine a_top (y := nI (1185 + 4 * ls.length + 1)) ((nI_succ _).symm) ?_
    refine a_ialdv (v := nm T e (nx T e b) 0 60) rfl (n := 2033) rfl (inI_nI (by omega) (by omega)) (by rw [nI_clamp (by omega)]; exact up2_at) ?_
    by_cases c2 : nm T e (nx T e b) 0 60 = -1
    · rw [show lnP T e b o = (false, nx T e b, []) from (if_neg c1).trans (if_pos c2), c2]
      refine a_if_ge rfl (fun c => absurd c (by decide)) (fun _ => ?_)
      refine a_s rfl rfl ?_
      rw [c2] at f3
      exact a_zret rfl rfl rfl ⟨rfl, _, 0, rfl, f3, fun _ => (congrFun (up2_row (by decide)) 12).trans (Rd.be h2), fun z => by cases z⟩
    have k2 : kd T e (nx T e b) = 2 ∧ ¬ nm T e (nx T e b) 0 60 < 0 := by
      unfold nm at c2 ⊢
      by_cases d1 : kd T e (nx T e b) = 2 ∧ 0 ≤ vl T e (nx T e b) ∧ vl T e (nx T e b) ≤ 60
      · rw [if_pos d1]
        exact ⟨d1.1, Int32.not_lt.mpr d1.2.1⟩
      · rw [if_neg d1] at c2
        exact absurd rfl c2
    refine a_if_ge rfl (fun _ => ?_) (fun c => absurd (Int32.not_lt.mp k2.2) c)
    have n2 := nx_lt (T := T) (nm_lt c2)
    have n2e := nx_le (T := T) n1e
    have hpn2 : rn T e 4 (rn T e 2 (nx T e b)) = nx T e (nx T e b) := by
      rw [← en_2 k2.1]
      rfl
    have s3 : up2 J2 421 (1185 + 4 * ls.length + 1) (nm T e (nx T e b) 0 60) 420 16 = nI o.length := ((congrFun (up2_row (by decide)) 16).trans (((Rd.fm h2 420 16 rfl).trans (congrFun (up2_row (by decide)) 16)).trans hst))
    refine a_l0 rfl rfl rfl ?_
    refine a_getq rfl gfX12_13_12 rfl (rfl) ?_
    refine a_l2 rfl rfl rfl ?_
    refine a_s rfl rfl ?_
    refine a_s rfl rfl ?_
    refine a_top (y := nI (1185 + 4 * ls.length + 2)) (nI_addl _ 2) ?_
    refine a_l0 rfl rfl rfl ?_
    refine a_geti rfl gfX12_168_12 rfl ?_
    refine a_top (y := nI o.length) (s3) ?_
    refine a_iastv (k := 1185 + 4 * ls.length + 2) rfl (n := 2033) rfl (inI_nI (by omega) (by omega)) (nI_clamp (by omega)) ?_
    refine a_l0 rfl rfl rfl ?_
    refine a_s rfl rfl ?_
    refine a_puti rfl pfX12_194_12 rfl ?_
    have f5 : Fm (sZ ls.length o.length) I (up2 (up2 (up2 J2 421 (1185 + 4 * ls.length + 1) (nm T e (nx T e b) 0 60)) 421 (1185 + 4 * ls.length + 2) (nI o.length)) 420 13 0) := Fm.up (Fm.up f3 (sZ_in (by omega) (by omega))) rfl
    have w2 : J2 421 (1185 + 4 * ls.length) = kndP T e b := (Rd.fm h2 421 _ rfl).trans up2_at
    refine a_ren (P := fun J => Fm (sZ ls.length o.length) I J ∧ Pp e (rn T e 2 (nx T e b)) J ∧ J 420 16 = nI o.length ∧ J 420 13 = nI 0 ∧ J 421 (1185 + 4 * ls.length) = kndP T e b ∧ J 421 (1185 + 4 * ls.length + 1) = nm T e (nx T e b) 0 60 ∧ J 421 (1185 + 4 * ls.length + 2) = nI o.length) ⟨f5, Pp.dp (Pp.wd (Pp.wd (Rd.pp h2))), ?_, up2_at, ?_, ?_, ?_⟩ (fun J5 hJ5 => ?_)
    · rw [up2_ne (Or.inr (by decide)), up2_row (by decide)]
      exact s3
    · rw [up2_row (by decide), u2_lo (by omega), u2_lo (by omega)]
      exact w2
    · rw [up2_row (by decide), u2_lo (by omega)]
      exact up2_at
    · rw [up2_row (by decide)]
      exact up2_at
    clear f5 f3 f1 s3 w2
    obtain ⟨f5, q5, s5, d5, l50, l51, l52⟩ := hJ5
    have rs5 : RowS (J5 421) o := RowS.eq hrs fun k g1 g2 => f5 421 k (sZ_mid g1 g2)
    have rl5 : LnW (J5 421) ls := LnW.eq hrl fun k g1 g2 => f5 421 k (sZ_lo (by omega) (by omega))
    have T5 : J5 426 = T := (funext fun k => f5 426 k rfl).trans hT
    have C5 : Cf T e o.length (nx T e (nx T e b)) o J5 J5 (rn T e 2 (nx T e b)) := ⟨Fm.rf, rfl, q5, hpn2, s5, rs5, Nat.le_refl _⟩
    -- the line ends here
    have key2 : ∀ {b1 p' : Nat} {o1 : List Int32} {J : Nat → Nat → Int32}, lnP T e b o = (true, b1, o1) → Cf T e o.length b1 o1 J5 J p' → AW S m_X12_readLawLine 41 (fun v h' => v = some (.int (bI (lnP T e b o).1)) ∧ ∃ J p', h' = hp J L w1 w2 t ∧ Fm (sZ ls.length o.length) I J ∧ ((lnP T e b o).1 = false → J 420 12 = nI (lnP T e b o).2.1) ∧ ((lnP T e b o).1 = true → Dl T e (lnP T e b o).2.1 (lnP T e b o).2.2 (lnV T e b o (lnP T e b o).2.2 :: ls) J p')) nX 0 0 128 [some (.ref 420), some (.int (nI ls.length)), some (.int (nI (1185 + 4 * ls.length)))] [] (hp J L w1 w2 t) := by
      intro b1 p' o1 J el C
      rw [el] at gd ⊢
      obtain ⟨-, g2, g3⟩ := gd
      have g3 : b < b1 ∧ o1.length + b ≤ o.length + b1 := g3 rfl
      refine a_l0 rfl rfl rfl ?_
      refine a_getq rfl gfX12_13_12 rfl (rfl) ?_
      refine a_l2 rfl rfl rfl ?_
      refine a_s rfl rfl ?_
      refine a_s rfl rfl ?_
      refine a_top (y := nI (1185 + 4 * ls.length + 3)) (nI_addl _ 3) ?_
      refine a_l0 rfl rfl rfl ?_
      refine a_geti rfl gfX12_168_12 rfl ?_
      refine a_top (y := nI o1.length) (Cf.st C) ?_
      refine a_iastv (k := 1185 + 4 * ls.length + 3) rfl (n := 2033) rfl (inI_nI (by omega) (by omega)) (nI_clamp (by omega)) ?_
      refine a_s rfl rfl ?_
      have lo : ∀ k, k < 1233 → J 421 k = J5 421 k := fun k hk => C.1 421 k (sY_lo (by omega))
      refine a_zret rfl rfl rfl ⟨rfl, _, p', rfl, Fm.up (Fm.tr f5 (Fm.mo C.1 sY_sZ)) (sZ_in (by omega) (by omega)), (fun z => by cases z), fun _ => ⟨Pp.wd (Cf.pp C), Cf.nb C, ?_, ?_, ⟨⟨?_, ?_, ?_, up2_at⟩, ?_⟩, by show o1.length ≤ b1; omega⟩⟩
      · rw [up2_row (by decide)]
        exact Cf.st C
      · exact RowS.eq C.2.2.2.2.2.1 fun k g1 _ => u2_lo (by omega)
      · rw [u2_lo (by omega), lo _ (by omega)]
        exact l50
      · rw [u2_lo (by omega), lo _ (by omega)]
        exact l51
      · rw [u2_lo (by omega), lo _ (by omega)]
        exact l52
      · refine LnW.eq rl5 fun k g1 g2 => ?_
        rw [u2_lo (by omega), lo _ (by omega)]
    refine a_l0 rfl rfl rfl ?_
    refine a_ldcs (q := 130 + 18) rfl (hw.ld (i := 18) (by decide)) ?_
    refine a_gV rfl lX12_128 mo_X12_passes (h_passes (b := nx T e (nx T e b)) (k := 18) hw (by decide) q5 (by rw [T5]; exact hpn2)) rfl rfl rfl ⟨12, _, rfl, rfl, rfl⟩ rfl (fun v' h' hv => ?_)
    obtain ⟨rfl, J6, rfl, h6⟩ := hv
    rw [T5] at h6 ⊢
    cases c3 : isWd T e (nx T e (nx T e b)) 18 with
    | false =>
      refine a_if_eq rfl (fun _ => ?_) (fun z => absurd rfl z)
      rw [if_neg (by rw [c3]; decide)] at h6
      exact key2 ((if_neg c1).trans ((if_neg c2).trans (if_neg (by rw [c3]; decide)))) (Cf.rd C5 h6 (Cf.sk C5))
    | true =>
      refine a_if_eq rfl (fun z => absurd z (by decide)) (fun _ => ?_)
      rw [if_pos c3] at h6
      have n3 := nx_lt (T := T) (isWd_lt c3)
      have C6 : Cf T e o.length (nx T e (nx T e (nx T e b))) o J5 J6 (en T e (nx T e (nx T e b))) := Cf.rd C5 h6 rfl
      have el : lnP T e b o = condR T e 6 (nx T e (nx T e (nx T e b))) o := (if_neg c1).trans ((if_neg c2).trans (if_pos c3))
      refine a_l0 rfl rfl rfl ?_
      refine a_gV rfl lX12_197 mo_X12_readCond (h_readCond_0 hw hbt (Cf.tt C6 T5) (Cf.d C6 d5) (Cf.rf C6) (by omega)) rfl rfl rfl ⟨12, _, rfl, rfl, rfl⟩ rfl (fun v' h' hv => ?_)
      obtain ⟨rfl, J7, p7, rfl, hz7, hf7⟩ := hv
      rw [show seqP T e (seqP T e (atomR T e 6) 20 2004) 19 2005 (nx T e (nx T e (nx T e b))) o = lnP T e b o from el.symm] at hz7 hf7 ⊢
      rcases er : lnP T e b o with ⟨z, b1, o1⟩
      rw [er] at hz7 hf7
      cases z with
      | false =>
        refine a_if_ne rfl (fun z => absurd rfl z) (fun _ => ?_)
        refine a_s rfl rfl ?_
        exact a_zret rfl rfl rfl ⟨rfl, J7, 0, rfl, Fm.tr f5 (Fm.mo (Fm.tr C6.1 (hf7 rfl).1) sY_sZ), fun _ => (hf7 rfl).2, fun z => by cases z⟩
      | true =>
        refine a_if_ne rfl (fun _ => ?_) (fun z => absurd (show (1 : Int32) = 0 from z) (by decide))
        rw [er] at key2
        exact key2 rfl (Cf.cc C6 (hz7 rfl))
  refine a_l0 rfl rfl rfl ?_
  refine a_ldcs (q := 130 + 15) rfl (hw.ld (i := 15) (by decide)) ?_
  refine a_eV1 rfl lX12_109 mo_X12_isWord (h_isWord (k := 15) hw (by decide) h12 hbp hq) rfl rfl rfl ⟨12, _, rfl, rfl, rfl⟩ rfl ?_
  refine a_top (y := bI (isWd T e b 15)) (by rw [hT]; exact congrArg bI (hi 15 (by decide))) ?_
  cases c15 : isWd T e b 15 with
  | true =>
    refine a_if_eq rfl (fun z => absurd z (by decide)) (fun _ => ?_)
    rw [show kndP T e b = 0 from if_pos c15] at key
    refine a_s rfl rfl ?_
    refine a_goto rfl ?_
    exact key
  | false =>
  refine a_if_eq rfl (fun _ => ?_) (fun z => absurd rfl z)
  refine a_l0 rfl rfl rfl ?_
  refine a_ldcs (q := 130 + 16) rfl (hw.ld (i := 16) (by decide)) ?_
  refine a_eV1 rfl lX12_109 mo_X12_isWord (h_isWord (k := 16) hw (by decide) h12 hbp hq) rfl rfl rfl ⟨12, _, rfl, rfl, rfl⟩ rfl ?_
  refine a_top (y := bI (isWd T e b 16)) (by rw [hT]; exact congrArg bI (hi 16 (by decide))) ?_
  cases c16 : isWd T e b 16 with
  | true =>
    refine a_if_eq rfl (fun z => absurd z (by decide)) (fun _ => ?_)
    rw [show kndP T e b = 1 from (if_neg (by rw [c15]; decide)).trans (if_pos c16)] at key
    refine a_s rfl rfl ?_
    refine a_goto rfl ?_
    exact key
  | false =>
  refine a_if_eq rfl (fun _ => ?_) (fun z => absurd rfl z)
  refine a_l0 rfl rfl rfl ?_
  refine a_ldcs (q := 130 + 17) rfl (hw.ld (i := 17) (by decide)) ?_
  refine a_eV1 rfl lX12_109 mo_X12_isWord (h_isWord (k := 17) hw (by decide) h12 hbp hq) rfl rfl rfl ⟨12, _, rfl, rfl, rfl⟩ rfl ?_
  refine a_top (y := bI (isWd T e b 17)) (by rw [hT]; exact congrArg bI (hi 17 (by decide))) ?_
  cases c17 : isWd T e b 17 with
  | false =>
    refine a_if_eq rfl (fun _ => ?_) (fun z => absurd rfl z)
    rw [show kndP T e b = -1 from (if_neg (by rw [c15]; decide)).trans ((if_neg (by rw [c16]; decide)).trans (if_neg (by rw [c17]; decide)))] at key
    refine a_s rfl rfl ?_
    exact key
  | true =>
    refine a_if_eq rfl (fun z => absurd z (by decide)) (fun _ => ?_)
    rw [show kndP T e b = 2 from (if_neg (by rw [c15]; decide)).trans ((if_neg (by rw [c16]; decide)).trans (if_pos c17))] at key
    refine a_s rfl rfl ?_
    refine a_goto rfl ?_
    exact key
/-- what reading a law's text may change, behind its beginning -/
def sG (q k : Nat) : Bool := sR q k || ((Nat.beq q 420 && (Nat.beq k 13 || Nat.beq k 16)) || (Nat.beq q 421 && Nat.ble 1184 k))
theorem sG_hi {k : Nat} (h : 1184 ≤ k) : sG 421 k = true := by
  show (false || (false || (true && Nat.ble 1184 k))) = true
  rw [Nat.ble_eq_true_of_le h]
  rfl
theorem sG_lo {k : Nat} (h : k < 1184) : sG 421 k = false := by
  show (false || (false || (true && Nat.ble 1184 k))) = false
  rw [ble_f h]
  rfl
theorem sR_sG : ∀ q k, sR q k = true → sG q k = true := fun q k h => by
  unfold sG
  rw [h]
  rfl
theorem sZ_sG {nl n : Nat} : ∀ q k, sZ nl n q k = true → sG q k = true := fun q k h => by
  by_cases c : q = 421
  · subst c
    refine sG_hi ?_
    rcases Nat.lt_or_ge k 1184 with g | g
    · rw [sZ_lo (by omega) (by omega)] at h
      cases h
    · exact g
  · unfold sZ at h
    unfold sG
    rw [beqF c] at h ⊢
    exact h
theorem sG_sL : ∀ q k, sG q k = true → sL q k = true := fun q k h => by
  by_cases c : q = 421
  · subst c
    refine sL_hi ?_
    rcases Nat.lt_or_ge k 1184 with g | g
    · rw [sG_lo g] at h
      cases h
    · exact g
  · refine sZ_sL (nl := 0) (n := 0) q k ?_
    unfold sG at h
    unfold sZ
    rw [beqF c] at h ⊢
    exact h
theorem Dl.rd {J : Nat → Nat → Int32} {b2 p' : Nat} (h : Dl T e b o ls I p) (r : Rd e p b2 p' I J) (hb : rn T e 4 p' = b) : Dl T e b o ls J p' := by
  obtain ⟨-, -, h3, h4, h5, h6⟩ := h
  exact ⟨Rd.pp r, hb, (Rd.fm r 420 16 rfl).trans h3, by rw [Rd.w r]; exact h4, by rw [Rd.w r]; exact h5, h6⟩
theorem h_readLineL (hw : WdS S) (hbt : BtT T) (hT : I 426 = T) (h : Dl T e b o ls I p) (hl : ls.length ≤ 12) : Sp S m_X12_readLine 60 0 0 [.ref 420, .int (bI false), .int (nI ls.length)] (hp I L w1 w2 t) (fun v h' => v = some (.int (bI (decide (ls.length < 12) && (lnP T e b o).1))) ∧ ∃ J p', h' = hp J L w1 w2 t ∧ Fm sG I J ∧ (ls.length < 12 → (lnP T e b o).1 = false → J 420 12 = nI (lnP T e b o).2.1) ∧ (¬ ls.length < 12 → J 420 12 = nI b) ∧ (ls.length < 12 → (lnP T e b o).1 = true → Dl T e (lnP T e b o).2.1 (lnP T e b o).2.2 (lnV T e b o (lnP T e b o).2.2 :: ls) J p')) nX := by
  obtain ⟨hq, hnb, hst, hrs, hrl, hB⟩ := h
  refine Sp_of ok_X12_readLine rfl rfl ?_
  show AW S m_X12_readLine 60 _ _ 0 0 0 [some (.ref 420), some (.int (bI false)), some (.int (nI ls.length))] [] (hp I L w1 w2 t)
  refine a_l0 rfl rfl rfl ?_
  refine a_gV rfl lX12_106 mo_X12_letters (h_letters hq) rfl rfl rfl ⟨12, _, rfl, rfl, rfl⟩ rfl (fun v' h' hv => ?_)
  obtain ⟨rfl, J, rfl, h1⟩ := hv
  rw [hT, hnb] at h1
  have f1 : Fm sG I J := Fm.mo (Rd.fm h1) sR_sG
  have hbe : b ≤ e := by
    rw [← hnb]
    exact rn_le (Pp.le hq)
  refine a_l2 rfl rfl rfl ?_
  refine a_l1 rfl rfl rfl ?_
  refine a_if_eq rfl (fun _ => ?_) (fun c => absurd rfl c)
  refine a_s rfl rfl ?_
  refine a_ic_ge rfl (fun c => ?_) (fun c => ?_)
  · have h12 := nI_ge_of (b := 12) c (by omega) (by decide)
    have n12 : ¬ ls.length < 12 := by omega
    rw [show decide (ls.length < 12) = false from decide_eq_false n12]
    refine a_s rfl rfl ?_
    exact a_zret rfl rfl rfl ⟨rfl, J, 0, rfl, f1, fun z => absurd z n12, fun _ => Rd.be h1, fun z => absurd z n12⟩
  have hnl : ls.length < 12 := nI_lt_of (b := 12) c (by omega) (by decide)
  rw [show decide (ls.length < 12) = true from decide_eq_true hnl]
  refine a_l1 rfl rfl rfl ?_
  refine a_if_eq rfl (fun _ => ?_) (fun c => absurd rfl c)
  refine a_l0 rfl rfl rfl ?_
  refine a_l2 rfl rfl rfl ?_
  have eT : J 426 = T := (Rd.T h1).trans hT
  refine a_gV rfl lX12_229 mo_X12_readLawLine (h_readLawLine hw hbt eT hnl (Rd.be h1) (Rd.pp h1) rfl (by rw [← hnb]; exact rn_rn) ((Rd.fm h1 420 16 rfl).trans hst) (by rw [Rd.w h1]; exact hrs) (by rw [Rd.w h1]; exact hrl) hB hbe) rfl rfl rfl ⟨12, _, rfl, rfl, rfl⟩ rfl (fun v' h' hv => ?_)
  obtain ⟨rfl, J2, p2, rfl, f2, hn2, hy2⟩ := hv
  have f3 : Fm sG I J2 := Fm.tr f1 (Fm.mo f2 sZ_sG)
  cases c3 : (lnP T e b o).1 with
  | false =>
    refine a_if_eq rfl (fun _ => ?_) (fun z => absurd rfl z)
    refine a_s rfl rfl ?_
    exact a_zret rfl rfl rfl ⟨rfl, J2, 0, rfl, f3, fun _ _ => hn2 c3, fun z => absurd hnl z, fun _ z => by cases z⟩
  | true =>
    refine a_if_eq rfl (fun z => absurd z (by decide)) (fun _ => ?_)
    refine a_s rfl rfl ?_
    refine a_goto rfl ?_
    exact a_zret rfl rfl rfl ⟨rfl, J2, p2, rfl, f3, fun _ z => (by cases z), fun z => absurd hnl z, fun _ _ => hy2 c3⟩
/-- behind all lines -/
def LwR (r : LRs) (J : Nat → Nat → Int32) : Prop := J 420 16 = nI r.2.2.1.length ∧ RowS (J 421) r.2.2.1 ∧ LnW (J 421) r.2.2.2 ∧ r.2.2.2.length ≤ 12 ∧ r.2.2.1.length ≤ 400
theorem h_readAllL (hw : WdS S) (hbt : BtT T) (hT : I 426 = T) (h9 : I 420 9 = nI e) (h4 : e ≤ 400) : Sp S m_X12_readAll 61 0 0 [.ref 420, .int (bI false)] (hp I L w1 w2 t) (fun v h' => v = some (.int (if (lawP T e).1 = true then nI (lawP T e).2.2.2.length else -1)) ∧ ∃ J, h' = hp J L w1 w2 t ∧ Fm sG (usH I) J ∧ ((lawP T e).1 = false → J 420 12 = nI (lawP T e).2.1) ∧ ((lawP T e).1 = true → LwR (lawP T e) J)) nX := by
  refine Sp_of ok_X12_readAll rfl rfl ?_
  show AW S m_X12_readAll 61 _ _ 0 0 0 [some (.ref 420), some (.int (bI false)), none] [] (hp I L w1 w2 t)
  have T0 : up2 (usH I) 420 16 0 426 = T := ((up2_row (by decide)).trans (usH_row (by decide))).trans hT
  have P0 : Pp e 0 (up2 (usH I) 420 16 0) := ⟨(up2_ne (Or.inr (by decide))).trans up2_at, ((up2_ne (Or.inr (by decide))).trans usH_11).trans h9, Nat.zero_le _, h4⟩
  have F0 : Fm sG (usH I) (up2 (usH I) 420 16 0) := Fm.up Fm.rf rfl
  refine a_l0 rfl rfl rfl ?_
  refine a_eV0 rfl lX12_232 mo_X12_uses r_X12_uses rfl rfl rfl ⟨12, _, rfl, rfl, rfl⟩ rfl ?_
  refine a_l0 rfl rfl rfl ?_
  refine a_s rfl rfl ?_
  refine a_puti rfl pfX12_168_12 rfl ?_
  refine a_l0 rfl rfl rfl ?_
  refine a_gV rfl lX12_94 mo_X12_blanks (h_blanks (I := up2 (usH I) 420 16 0) P0) rfl rfl rfl ⟨12, _, rfl, rfl, rfl⟩ rfl (fun v' h' hv => ?_)
  obtain ⟨rfl, J1, rfl, h1⟩ := hv
  rw [T0] at h1
  have h1 : Rd e 0 (bg T e 0) (bg T e 0) (up2 (usH I) 420 16 0) J1 := h1
  have F1 : Fm sG (usH I) J1 := Fm.tr F0 (Fm.mo (Rd.fm h1) sR_sG)
  have D1 : Dl T e (bg T e 0) [] [] J1 (bg T e 0) := ⟨Rd.pp h1, bg_sk 0, (Rd.fm h1 420 16 rfl).trans (up2_at.trans nI_0.symm), trivial, trivial, Nat.zero_le _⟩
  have hb0 := bg_le (T := T) (e := e) 0
  refine a_l0 rfl rfl rfl ?_
  refine a_geti rfl gfX12_81_12 rfl ?_
  refine a_top (y := nI (bg T e 0)) (Pp.pu (Rd.pp h1)) ?_
  refine a_l0 rfl rfl rfl ?_
  refine a_geti rfl gfX12_84_12 rfl ?_
  refine a_top (y := nI e) (Pp.en (Rd.pp h1)) ?_
  refine a_ic_ne rfl (fun c0 => ?_) (fun c0 => ?_)
  rotate_left
  · have c0 := nI_inj (by omega) (by omega) c0
    have el : lawP T e = (true, bg T e 0, [], []) := if_neg (by omega)
    rw [el, if_pos rfl]
    refine a_s rfl rfl ?_
    exact a_iret rfl rfl ⟨nI_0 ▸ rfl, J1, rfl, F1, fun z => (by cases z), fun _ => ⟨D1.2.2.1, trivial, trivial, Nat.zero_le _, Nat.zero_le _⟩⟩
  have c0 : bg T e 0 < e := by
    rcases Nat.lt_or_ge (bg T e 0) e with g | g
    · exact g
    · exact absurd (congrArg nI (show bg T e 0 = e by omega)) c0
  refine a_s rfl rfl ?_
  refine a_s2 rfl rfl rfl rfl rfl rfl ?_
  refine a_inv (n := 12) (fun m ls h => ∃ b' o' ls' p' J, ls = [some (.ref 420), some (.int (bI false)), some (.int (nI ls'.length))] ∧ h = hp J L w1 w2 t ∧ Dl T e b' o' ls' J p' ∧ Fm sG (usH I) J ∧ lnsP T e (12 - ls'.length) b' o' ls' = lawP T e ∧ ls'.length ≤ 12 ∧ m = 12 - ls'.length) ⟨bg T e 0, [], [], bg T e 0, J1, rfl, rfl, D1, F1, (if_pos c0).symm, by decide, rfl⟩ ?_
  rintro m _ _ ⟨b', o', ls', p', J, rfl, rfl, hD, hF, es, hl, hm⟩ ih
  have eT : J 426 = T := ((funext fun k => hF 426 k rfl).trans (usH_row (by decide))).trans hT
  refine a_l0 rfl rfl rfl ?_
  refine a_l1 rfl rfl rfl ?_
  refine a_l2 rfl rfl rfl ?_
  refine a_gV rfl lX12_235 mo_X12_readLine (h_readLineL hw hbt eT hD hl) rfl rfl rfl ⟨12, _, rfl, rfl, rfl⟩ rfl (fun v' h' hv => ?_)
  obtain ⟨rfl, J2, p2, rfl, f2, hn2, hx2, hy2⟩ := hv
  have hF2 : Fm sG (usH I) J2 := Fm.tr hF f2
  have hb' : b' ≤ e := by
    rw [← hD.2.1]
    exact rn_le (Pp.le hD.1)
  have gd := lnP_gd (T := T) (o := o') hb'
  by_cases c12 : ls'.length < 12
  rotate_left
  · rw [show 12 - ls'.length = 0 by omega] at es
    have es : lawP T e = (false, b', [], []) := es.symm
    rw [show decide (ls'.length < 12) = false from decide_eq_false c12]
    refine a_if_ne rfl (fun z => absurd rfl z) (fun _ => ?_)
    refine a_s rfl rfl ?_
    rw [es, if_neg Bool.false_ne_true]
    exact a_iret rfl rfl ⟨rfl, J2, rfl, hF2, fun _ => hx2 c12, fun z => by cases z⟩
  obtain ⟨f, hf⟩ : ∃ f, 12 - ls'.length = f + 1 := ⟨12 - ls'.length - 1, by omega⟩
  rw [hf, lnsP_s] at es
  rw [show decide (ls'.length < 12) = true from decide_eq_true c12]
  have hn2 := hn2 c12
  have hy2 := hy2 c12
  clear hx2
  rcases er : lnP T e b' o' with ⟨z, b1, o1⟩
  rw [er] at es hn2 hy2 gd
  cases z with
  | false =>
    refine a_if_ne rfl (fun z => absurd rfl z) (fun _ => ?_)
    have es : lawP T e = (false, b1, [], []) := es.symm
    refine a_s rfl rfl ?_
    rw [es, if_neg Bool.false_ne_true]
    exact a_iret rfl rfl ⟨rfl, J2, rfl, hF2, fun _ => hn2 rfl, fun z => by cases z⟩
  | true =>
  refine a_if_ne rfl (fun _ => ?_) (fun z => absurd (show (1 : Int32) = 0 from z) (by decide))
  rw [if_pos rfl] at es
  have D2 : Dl T e b1 o1 (lnV T e b' o' o1 :: ls') J2 p2 := hy2 rfl
  obtain ⟨-, g2, g3⟩ := gd
  have g2 : b1 ≤ e := g2
  have eT2 : J2 426 = T := (funext fun k => f2 426 k rfl).trans eT
  refine a_l0 rfl rfl rfl ?_
  refine a_gV rfl lX12_94 mo_X12_blanks (h_blanks D2.1) rfl rfl rfl ⟨12, _, rfl, rfl, rfl⟩ rfl (fun v' h' hv => ?_)
  obtain ⟨rfl, J3, rfl, h3⟩ := hv
  rw [eT2, D2.2.1] at h3
  have hF3 : Fm sG (usH I) J3 := Fm.tr hF2 (Fm.mo (Rd.fm h3) sR_sG)
  have D3 := Dl.rd D2 h3 (by rw [← D2.2.1]; exact rn_rn)
  have eT3 : J3 426 = T := (Rd.T h3).trans eT2
  refine a_l0 rfl rfl rfl ?_
  refine a_geti rfl gfX12_81_12 rfl ?_
  refine a_top (y := nI b1) (Pp.pu (Rd.pp h3)) ?_
  refine a_l0 rfl rfl rfl ?_
  refine a_geti rfl gfX12_84_12 rfl ?_
  refine a_top (y := nI e) (Pp.en (Rd.pp h3)) ?_
  refine a_ic_ne rfl (fun c1 => ?_) (fun c1 => ?_)
  rotate_left
  · have c1 := nI_inj (by omega) (by omega) c1
    have es : lawP T e = (true, b1, o1, lnV T e b' o' o1 :: ls') := es.symm.trans (if_neg (show ¬ b1 < e by omega))
    refine a_l2 rfl rfl rfl ?_
    refine a_s rfl rfl ?_
    refine a_s rfl rfl ?_
    refine a_top (y := nI (ls'.length + 1)) ((nI_succ _).symm) ?_
    rw [es, if_pos rfl]
    obtain ⟨-, -, x1, x2, x3, x4⟩ := D3
    exact a_iret rfl rfl ⟨rfl, J3, rfl, hF3, fun z => (by cases z), fun _ => ⟨x1, x2, x3, by show ls'.length + 1 ≤ 12; omega, by show o1.length ≤ 400; omega⟩⟩
  have c1 : b1 < e := by
    rcases Nat.lt_or_ge b1 e with g | g
    · exact g
    · exact absurd (congrArg nI (show b1 = e by omega)) c1
  have es := (if_pos c1).symm.trans es
  refine a_l0 rfl rfl rfl ?_
  refine a_s rfl rfl ?_
  refine a_s rfl rfl ?_
  refine a_eV1 rfl lX12_87 mo_X12_isAt (h_isAt (Rd.pp h3)) rfl rfl rfl ⟨12, _, rfl, rfl, rfl⟩ rfl ?_
  refine a_top (y := bI (sg T e b1 59)) (by rw [eT3]; exact congrArg bI (at_s (c := 59) hbt h4 (by decide))) ?_
  cases c59 : sg T e b1 59 with
  | true =>
    refine a_if_ne rfl (fun _ => ?_) (fun z => absurd (show (1 : Int32) = 0 from z) (by decide))
    have es := (if_pos c59).symm.trans es
    refine a_l0 rfl rfl rfl ?_
    refine a_s rfl rfl ?_
    refine a_geti rfl gfX12_81_12 rfl ?_
    refine a_top (y := nI b1) (Pp.pu (Rd.pp h3)) ?_
    refine a_s rfl rfl ?_
    refine a_s rfl rfl ?_
    refine a_top (y := nI (b1 + 1)) ((nI_succ _).symm) ?_
    refine a_puti rfl pfX12_81_12 rfl ?_
    refine a_iv2 (y := nI (ls'.length + 1)) rfl rfl rfl ((nI_succ _).symm) ?_
    refine a_goto rfl ?_
    have n1 := nx_lt (T := T) c1
    have e3 := en_3 (of_decide_eq_true c59).1
    obtain ⟨-, -, x1, x2, x3, x4⟩ := D3
    exact ih (12 - (ls'.length + 1)) _ _ (by omega) ⟨nx T e b1, o1, lnV T e b' o' o1 :: ls', b1 + 1, _, rfl, rfl, ⟨Pp.to (Rd.pp h3) (by omega), by rw [← e3]; rfl, (up2_ne (Or.inr (by decide))).trans x1, by rw [up2_row (by decide)]; exact x2, by rw [up2_row (by decide)]; exact x3, by omega⟩, Fm.up hF3 rfl, by rw [show 12 - (lnV T e b' o' o1 :: ls').length = f from (by show 12 - (ls'.length + 1) = f; omega)]; exact es, by show ls'.length + 1 ≤ 12; omega, rfl⟩
  | false =>
    refine a_if_ne rfl (fun z => absurd rfl z) (fun _ => ?_)
    have es : lawP T e = (false, b1, [], []) := es.symm.trans (if_neg (by rw [c59]; decide))
    refine a_s rfl rfl ?_
    rw [es, if_neg Bool.false_ne_true]
    exact a_iret rfl rfl ⟨rfl, J3, rfl, hF3, fun _ => Rd.be h3, fun z => by cases z⟩
theorem h_throwsIf {z : Bool} {x : Int32} : SpE S m_X12_throwsIf 12 [.ref 420, .int (bI z), .int x] (hp I L w1 w2 t) (some (.int (bI z))) (hp (if z = true then up2 I 420 0 x else I) L w1 w2 t) := by
  refine SpE_of ok_X12_throwsIf rfl rfl ?_
  show AW S m_X12_throwsIf 12 _ _ 0 0 0 [some (.ref 420), some (.int (bI z)), some (.int x)] [] (hp I L w1 w2 t)
  refine a_l1 rfl rfl rfl ?_
  cases z with
  | false =>
    refine a_if_eq rfl (fun _ => ?_) (fun c => absurd rfl c)
    refine a_l1 rfl rfl rfl ?_
    exact a_zret rfl rfl rfl ⟨rfl, rfl⟩
  | true =>
    refine a_if_eq rfl (fun c => absurd c (by decide)) (fun _ => ?_)
    refine a_l0 rfl rfl rfl ?_
    refine a_l2 rfl rfl rfl ?_
    refine a_puti rfl pfX12_3_12 rfl ?_
    refine a_l1 rfl rfl rfl ?_
    exact a_zret rfl rfl rfl ⟨rfl, rfl⟩
/-- behind a law's text: what stands in the world -/
def LwJ (r : LRs) (I J : Nat → Nat → Int32) : Prop := (r.1 = true → J 421 3 = 1 ∧ J 421 335 = nI r.2.2.2.length ∧ ∃ K, RowS K r.2.2.1 ∧ LnW K r.2.2.2 ∧ ∀ k, 1 ≤ k → k < 849 → J 421 (335 + k) = K (1184 + k)) ∧ (r.1 = false → ∀ k, k < 1184 → J 421 k = I 421 k)
theorem h_law (hw : WdS S) (hr : RI nd np I) (hbt : BtT T) (hT : I 426 = T) (h9 : I 420 9 = nI e) (h4 : e ≤ 400) : Sp S m_X12_law 62 0 0 [.ref 420] (hp I L w1 w2 t) (fun v h' => v = some (.int (if (lawP T e).1 = true then nI (lawP T e).2.2.2.length else 0)) ∧ ∃ J, h' = hp J L w1 w2 t ∧ Us nd np I J ∧ J 420 0 = (if (lawP T e).1 = true then 0 else 1) ∧ J 420 14 = (if (lawP T e).1 = true then -1 else nI (lawP T e).2.1) ∧ (∀ q, q ≠ 420 → q ≠ 421 → J q = I q) ∧ LwJ (lawP T e) I J) nX := by
  refine Sp_of ok_X12_law rfl rfl ?_
  show AW S m_X12_law 62 _ _ 0 0 0 [some (.ref 420), none, none] [] (hp I L w1 w2 t)
  have fU : Fm sL I (usH I) := by
    unfold usH
    exact Fm.up (Fm.up (Fm.up (Fm.up Fm.rf rfl) rfl) rfl) rfl
  have u0 : usH I 420 0 = 0 := by
    unfold usH
    rw [up2_ne (Or.inr (by decide)), up2_ne (Or.inr (by decide)), up2_ne (Or.inr (by decide))]
    exact up2_at
  refine a_l0 rfl rfl rfl ?_
  refine a_s rfl rfl ?_
  refine a_gV rfl lX12_239 mo_X12_readAll (h_readAllL hw hbt hT h9 h4) rfl rfl rfl ⟨12, _, rfl, rfl, rfl⟩ rfl (fun v' h' hv => ?_)
  obtain ⟨rfl, J, rfl, hF, hn, hy⟩ := hv
  have hG : GL I J := ⟨Fm.tr fU (Fm.mo hF sG_sL), (hF 420 9 rfl).trans usH_9⟩
  have j0 : J 420 0 = 0 := (hF 420 0 rfl).trans u0
  have other : ∀ q, q ≠ 420 → q ≠ 421 → J q = I q := fun q g1 g2 => by
    rw [show J q = usH I q from funext fun k => hF q k (by unfold sG sR; rw [beqF g1, beqF g2]; rfl), usH_row g1]
  rcases er : lawP T e with ⟨z, b1, o1, l1⟩
  rw [er] at hn hy
  have lok := lawP_ok (T := T) (e := e)
  rw [er] at lok
  cases z with
  | false =>
    refine a_top (y := (-1)) (rfl) ?_
    refine a_s1 rfl rfl rfl rfl rfl rfl ?_
    refine a_l0 rfl rfl rfl ?_
    refine a_l1 rfl rfl rfl ?_
    refine a_if_ge rfl (fun c => absurd c (by decide)) (fun _ => ?_)
    refine a_l0 rfl rfl rfl ?_
    refine a_getiv (v := nI b1) rfl gfX12_91_12 rfl (hn rfl) ?_
    refine a_goto rfl ?_
    refine a_puti rfl pfX12_33_12 rfl ?_
    refine a_l0 rfl rfl rfl ?_
    refine a_l1 rfl rfl rfl ?_
    refine a_if_ge rfl (fun c => absurd c (by decide)) (fun _ => ?_)
    refine a_s rfl rfl ?_
    refine a_goto rfl ?_
    refine a_s rfl rfl ?_
    refine a_eV1 rfl lX12_243 mo_X12_throwsIf (h_throwsIf (z := true)) rfl rfl rfl ⟨12, _, rfl, rfl, rfl⟩ rfl ?_
    rw [if_pos rfl]
    refine a_if_eq rfl (fun c => absurd c (by decide)) (fun _ => ?_)
    refine a_s rfl rfl ?_
    have g2 : GL I (up2 (up2 J 420 14 (nI b1)) 420 0 1) := ⟨Fm.up (Fm.up hG.1 rfl) rfl, (up2_ne (Or.inr (by decide))).trans ((up2_ne (Or.inr (by decide))).trans hG.2)⟩
    refine a_iret rfl rfl ⟨rfl, _, rfl, Us.same hr g2, ?_, ?_, ?_, ?_, ?_⟩
    · exact up2_at
    · exact (up2_ne (Or.inr (by decide))).trans up2_at
    · intro q g1 g3
      rw [up2_row g1, up2_row g1]
      exact other q g1 g3
    · exact fun z => by cases z
    · intro _ k hk
      rw [up2_row (by decide), up2_row (by decide), hF 421 k (sG_lo hk), usH_row (by decide)]
  | true =>
    refine a_top (y := nI l1.length) (rfl) ?_
    obtain ⟨x1, x2, x3, x4, x5⟩ := hy rfl
    have x4 : l1.length ≤ 12 := x4
    have x5 : o1.length ≤ 400 := x5
    refine a_s1 rfl rfl rfl rfl rfl rfl ?_
    refine a_l0 rfl rfl rfl ?_
    refine a_l1 rfl rfl rfl ?_
    refine a_if_ge rfl (fun _ => ?_) (fun c => absurd (nI_0le (k := l1.length) (by omega)) c)
    refine a_s rfl rfl ?_
    refine a_puti rfl pfX12_33_12 rfl ?_
    refine a_l0 rfl rfl rfl ?_
    refine a_l1 rfl rfl rfl ?_
    refine a_if_ge rfl (fun _ => ?_) (fun c => absurd (nI_0le (k := l1.length) (by omega)) c)
    refine a_s rfl rfl ?_
    refine a_s rfl rfl ?_
    refine a_eV1 rfl lX12_243 mo_X12_throwsIf (h_throwsIf (z := false)) rfl rfl rfl ⟨12, _, rfl, rfl, rfl⟩ rfl ?_
    rw [if_neg Bool.false_ne_true]
    generalize hK : up2 J 420 14 (-1) = K
    have gK : GL I K := by
      subst hK
      exact ⟨Fm.up hG.1 rfl, (up2_ne (Or.inr (by decide))).trans hG.2⟩
    have eK : K 421 = J 421 := by
      subst hK
      exact up2_row (by decide)
    have k0 : K 420 0 = 0 := by
      subst hK
      exact (up2_ne (Or.inr (by decide))).trans j0
    have k14 : K 420 14 = -1 := by
      subst hK
      exact up2_at
    have kother : ∀ q, q ≠ 420 → q ≠ 421 → K q = I q := fun q g1 g2 => by
      subst hK
      rw [up2_row g1]
      exact other q g1 g2
    have fin := Us.law (nl := l1.length) hr gK x4 x5 (by rw [eK]; exact LD_of x2 x3 (lok rfl))
    refine a_if_eq rfl (fun _ => ?_) (fun c => absurd rfl c)
    refine a_l0 rfl rfl rfl ?_
    refine a_getq rfl gfX12_13_12 rfl (rfl) ?_
    refine a_s rfl rfl ?_
    refine a_l1 rfl rfl rfl ?_
    refine a_iastv (k := 1184) rfl (n := 2033) rfl ⟨by decide, by decide⟩ rfl ?_
    refine a_s rfl rfl ?_
    refine a_s2 rfl rfl rfl rfl rfl rfl ?_
    refine a_forE (n := 849) (fun j => [some (.ref 420), some (.int (nI l1.length)), some (.int (nI j))]) (fun j => hp (cpR (up2 K 421 1184 (nI l1.length)) 421 335 421 1184 j) L w1 w2 t) (by simp [lsub, nI_0]) (by rw [cpR_0]) ?_ (fun j hj ih => ?_)
    · refine a_l2 rfl rfl rfl ?_
      refine a_s rfl rfl ?_
      refine a_ic_ge rfl (fun _ => ?_) (fun c => absurd (Int32.le_refl _) c)
      refine a_l0 rfl rfl rfl ?_
      refine a_getq rfl gfX12_13_12 rfl (rfl) ?_
      refine a_s rfl rfl ?_
      refine a_s rfl rfl ?_
      refine a_iastv (k := 3) rfl (n := 2033) rfl ⟨by decide, by decide⟩ rfl ?_
      refine a_l0 rfl rfl rfl ?_
      refine a_s rfl rfl ?_
      refine a_puti rfl pfX12_53_12 rfl ?_
      refine a_l1 rfl rfl rfl ?_
      have r0 : ∀ k, k ≠ 7 → lawH K l1.length 420 k = K 420 k := fun k hk => by
        unfold lawH
        rw [up2_ne (Or.inr hk), up2_row (by decide), cpR_row (by decide), up2_row (by decide)]
      refine a_iret rfl rfl ⟨rfl, _, rfl, fin, ?_, ?_, ?_, ?_, ?_⟩
      · exact (r0 0 (by decide)).trans k0
      · exact (r0 14 (by decide)).trans k14
      · intro q g1 g2
        show lawH K l1.length q = I q
        unfold lawH
        rw [up2_row g1, up2_row g2, cpR_row g2, up2_row g2]
        exact kother q g1 g2
      · refine fun _ => ⟨?_, ?_, J 421, x2, x3, fun k k1 k2 => ?_⟩
        · show lawH K l1.length 421 3 = 1
          unfold lawH
          rw [up2_row (by decide)]
          exact up2_at
        · show lawH K l1.length 421 335 = nI l1.length
          unfold lawH
          rw [up2_row (by decide), u2_lo (by decide), show 335 = 335 + 0 by omega, cpR_in (by decide)]
          exact up2_at
        · show lawH K l1.length 421 (335 + k) = _
          unfold lawH
          rw [up2_row (by decide), u2_lo (by omega), cpR_in k2, u2_lo (by omega), eK, Nat.add_comm]
      · exact fun z => by cases z
    · refine a_l2 rfl rfl rfl ?_
      refine a_s rfl rfl ?_
      refine a_ic_ge rfl (fun c => absurd c (nI_ge (b := 849) hj (by omega))) (fun _ => ?_)
      refine a_l0 rfl rfl rfl ?_
      refine a_getq rfl gfX12_13_12 rfl (rfl) ?_
      refine a_s rfl rfl ?_
      refine a_l2 rfl rfl rfl ?_
      refine a_s rfl rfl ?_
      refine a_top (y := nI (335 + j)) (nI_addl 335 j) ?_
      refine a_l0 rfl rfl rfl ?_
      refine a_getq rfl gfX12_13_12 rfl (rfl) ?_
      refine a_s rfl rfl ?_
      refine a_l2 rfl rfl rfl ?_
      refine a_s rfl rfl ?_
      refine a_top (y := nI (1184 + j)) (nI_addl 1184 j) ?_
      refine a_ialdv (v := up2 K 421 1184 (nI l1.length) 421 (j + 1184)) rfl (n := 2033) rfl (inI_nI (by omega) (by omega)) (by rw [nI_clamp (by omega), cpR_out (by omega), Nat.add_comm]) ?_
      refine a_iastv (k := 335 + j) rfl (n := 2033) rfl (inI_nI (by omega) (by omega)) (nI_clamp (by omega)) ?_
      rw [cpR_succ]
      refine a_i2 rfl rfl rfl ?_
      refine a_goto rfl ?_
      exact a_back ih (by simp [lsub, nI_1]) rfl
end T79i
end
section
/-! ===== what a feed writes, on both sides ===== -/
section T79j
variable {S : aS} {I : Nat → Nat → Int32} {L : Nat → Nat → Int64} {w1 w2 t : Nat} {l : Nat} {x1 x2 x3 x4 x5 : Int32}
set_option maxRecDepth 100000
def gvF (x1 x2 x3 x4 x5 : Int32) (q : Nat) : Int32 := if q = 0 then x1 else if q = 1 then x2 else if q = 2 then x3 else if q = 3 then x4 else x5
/-- the j-th of twenty bytes -/
def fbF (x1 x2 x3 x4 x5 : Int32) (j : Nat) : Int32 := byA (gvF x1 x2 x3 x4 x5 (j / 4)) (nI (24 - 8 * (j % 4)))
/-- a tape's row behind j of them -/
def tpF (f : Nat → Int32) (l j : Nat) (x1 x2 x3 x4 x5 : Int32) : Nat → Int32 := fun k => if l ≤ k ∧ k < l + j then fbF x1 x2 x3 x4 x5 (k - l) else f k
theorem tpF_0 {f : Nat → Int32} : tpF f l 0 x1 x2 x3 x4 x5 = f := by
  funext k
  exact if_neg (by omega)
theorem by_ok : ∀ n, n < 256 → (nI n - 128).toInt8.toInt32 = nI n - 128 := by decide +kernel
theorem i8_rng (x : Int8) : ∃ n, n < 256 ∧ x.toInt32 = nI n - 128 := by
  have h1 := Int8.le_toInt x
  have h2 := Int8.toInt_lt x
  refine ⟨(x.toInt + 128).toNat, by omega, ?_⟩
  rw [← Int32.toInt_inj, Int8.toInt_toInt32, Int32.toInt_sub, nI_toInt (by omega), show (128 : Int32).toInt = 128 from rfl, Int.bmod_eq_of_le (by omega) (by omega)]
  omega
theorem tpF_bt {f : Nat → Int32} {j : Nat} (h : BtT f) : BtT (tpF f l j x1 x2 x3 x4 x5) := fun k hk => by
  unfold tpF
  by_cases c : l ≤ k ∧ k < l + j
  · rw [if_pos c]
    exact i8_rng _
  · rw [if_neg c]
    exact h k hk
theorem apH_at {x : Int32} {i : Nat} (hi : i < 4) : apH I l x 202 (l + i) = byA x (nI (24 - 8 * i)) := by
  unfold apH
  rcases i with _ | _ | _ | _ | i
  · rw [up2_row (by decide), up2_ne (Or.inr (by omega)), up2_row (by decide), up2_ne (Or.inr (by omega)), up2_row (by decide), up2_ne (Or.inr (by omega)), up2_row (by decide)]
    exact up2_at
  · rw [up2_row (by decide), up2_ne (Or.inr (by omega)), up2_row (by decide), up2_ne (Or.inr (by omega)), up2_row (by decide)]
    exact up2_at
  · rw [up2_row (by decide), up2_ne (Or.inr (by omega)), up2_row (by decide)]
    exact up2_at
  · rw [up2_row (by decide)]
    exact up2_at
  · omega
theorem apH_out {x : Int32} {k : Nat} (h : k < l ∨ l + 4 ≤ k) : apH I l x 202 k = I 202 k := by
  unfold apH
  rw [up2_row (by decide), up2_ne (Or.inr (by omega)), up2_row (by decide), up2_ne (Or.inr (by omega)), up2_row (by decide), up2_ne (Or.inr (by omega)), up2_row (by decide), up2_ne (Or.inr (by omega))]
/-- a block of four -/
theorem fbF_4 {q i : Nat} (hi : i < 4) : fbF x1 x2 x3 x4 x5 (4 * q + i) = byA (gvF x1 x2 x3 x4 x5 q) (nI (24 - 8 * i)) := by
  unfold fbF
  rw [show (4 * q + i) / 4 = q by omega, show (4 * q + i) % 4 = i by omega]
theorem fdH_202 : fdH I l x1 x2 x3 x4 x5 202 = tpF (I 202) l 20 x1 x2 x3 x4 x5 := by
  funext k
  unfold tpF
  by_cases c : l ≤ k ∧ k < l + 20
  · rw [if_pos c]
    obtain ⟨q, i, hq, hi, e⟩ : ∃ q i, q < 5 ∧ i < 4 ∧ k - l = 4 * q + i := ⟨(k - l) / 4, (k - l) % 4, by omega, by omega, by omega⟩
    rw [e, fbF_4 hi]
    unfold fdH
    rcases q with _ | _ | _ | _ | _ | q
    · rw [apH_out (by omega), apH_out (by omega), apH_out (by omega), apH_out (by omega), show k = l + i by omega, apH_at hi]
      rfl
    · rw [apH_out (by omega), apH_out (by omega), apH_out (by omega), show k = l + 4 + i by omega, apH_at hi]
      rfl
    · rw [apH_out (by omega), apH_out (by omega), show k = l + 8 + i by omega, apH_at hi]
      rfl
    · rw [apH_out (by omega), show k = l + 12 + i by omega, apH_at hi]
      rfl
    · rw [show k = l + 16 + i by omega, apH_at hi]
      rfl
    · omega
  · rw [if_neg c]
    unfold fdH
    rw [apH_out (by omega), apH_out (by omega), apH_out (by omega), apH_out (by omega), apH_out (by omega)]
theorem up_tp {J : Nat → Nat → Int32} {f g : Nat → Int32} {j : Nat} : up2 (upr (upr J 427 g) 426 (tpF f l j x1 x2 x3 x4 x5)) 426 (l + j) (fbF x1 x2 x3 x4 x5 j) = upr (upr J 427 g) 426 (tpF f l (j + 1) x1 x2 x3 x4 x5) := by
  funext q k
  by_cases hq : q = 426
  · subst hq
    rw [upr_at]
    unfold tpF
    by_cases hk : k = l + j
    · subst hk
      rw [up2_at, if_pos (by omega), show l + j - l = j by omega]
    · rw [up2_ne (Or.inr hk), upr_at]
      by_cases c5 : l ≤ k ∧ k < l + j
      · rw [if_pos c5, if_pos (by omega)]
      · rw [if_neg c5, if_neg (by omega)]
  · rw [upr_row hq, up2_row hq, upr_row hq]
theorem sh_ok : ∀ j, j < 20 → 24 - 8 * (nI j - nI j / 4 * 4) = nI (24 - 8 * (j % 4)) := by decide +kernel
theorem h_feed (hl : I 420 9 = nI l) (h4 : l ≤ 400) : Sp S m_X12_feed 12 0 0 [.ref 420, .int x1, .int x2, .int x3, .int x4, .int x5] (hp I L w1 w2 t) (fun v h' => v = some (.int (if l + 20 ≤ 400 then nI (l + 20) else -1)) ∧ ∃ g, h' = hp (if l + 20 ≤ 400 then up2 (upr (upr (up2 I 420 0 0) 427 g) 426 (tpF (I 426) l 20 x1 x2 x3 x4 x5)) 420 9 (nI (l + 20)) else up2 I 420 0 0) L w1 w2 t) nX := by
  refine Sp_of ok_X12_feed rfl rfl ?_
  show AW S m_X12_feed 12 _ _ 0 0 0 [some (.ref 420), some (.int x1), some (.int x2), some (.int x3), some (.int x4), some (.int x5), none] [] (hp I L w1 w2 t)
  refine a_l0 rfl rfl rfl ?_
  refine a_s rfl rfl ?_
  refine a_puti rfl pfX12_3_12 rfl ?_
  refine a_l0 rfl rfl rfl ?_
  refine a_geti rfl gfX12_78_12 rfl ?_
  refine a_top (y := nI l) ((up2_ne (Or.inr (by decide))).trans hl) ?_
  refine a_s rfl rfl ?_
  refine a_s rfl rfl ?_
  refine a_top (y := nI (l + 20)) (nI_addl l 20) ?_
  refine a_s rfl rfl ?_
  refine a_ic_le rfl (fun c => ?_) (fun c => ?_)
  · have hc : l + 20 ≤ 400 := nI_ge_of (a := 400) (b := l + 20) c (by decide) (by omega)
    simp only [if_pos hc]
    refine a_l0 rfl rfl rfl ?_
    refine a_getq rfl gfX12_36_12 rfl (rfl) ?_
    refine a_s rfl rfl ?_
    refine a_l1 rfl rfl rfl ?_
    refine a_iastv (k := 0) rfl (n := 5) rfl ⟨by decide, by decide⟩ rfl ?_
    refine a_l0 rfl rfl rfl ?_
    refine a_getq rfl gfX12_36_12 rfl (rfl) ?_
    refine a_s rfl rfl ?_
    refine a_l2 rfl rfl rfl ?_
    refine a_iastv (k := 1) rfl (n := 5) rfl ⟨by decide, by decide⟩ rfl ?_
    refine a_l0 rfl rfl rfl ?_
    refine a_getq rfl gfX12_36_12 rfl (rfl) ?_
    refine a_s rfl rfl ?_
    refine a_l3 rfl rfl rfl ?_
    refine a_iastv (k := 2) rfl (n := 5) rfl ⟨by decide, by decide⟩ rfl ?_
    refine a_l0 rfl rfl rfl ?_
    refine a_getq rfl gfX12_36_12 rfl (rfl) ?_
    refine a_s rfl rfl ?_
    refine a_l4 rfl rfl rfl ?_
    refine a_iastv (k := 3) rfl (n := 5) rfl ⟨by decide, by decide⟩ rfl ?_
    refine a_l0 rfl rfl rfl ?_
    refine a_getq rfl gfX12_36_12 rfl (rfl) ?_
    refine a_s rfl rfl ?_
    refine a_l5 rfl rfl rfl ?_
    refine a_iastv (k := 4) rfl (n := 5) rfl ⟨by decide, by decide⟩ rfl ?_
    obtain ⟨g, eg, hg⟩ : ∃ g, up2 (up2 (up2 (up2 (up2 (up2 I 420 0 0) 427 0 x1) 427 1 x2) 427 2 x3) 427 3 x4) 427 4 x5 = upr (up2 I 420 0 0) 427 g ∧ ∀ q, q < 5 → g q = gvF x1 x2 x3 x4 x5 q := ⟨up2 (up2 (up2 (up2 (up2 (up2 I 420 0 0) 427 0 x1) 427 1 x2) 427 2 x3) 427 3 x4) 427 4 x5 427, by
      funext q
      by_cases hq : q = 427
      · subst hq
        rw [upr_at]
      · rw [upr_row hq, up2_row hq, up2_row hq, up2_row hq, up2_row hq, up2_row hq], fun q hq => by
      rcases q with _ | _ | _ | _ | _ | q
      · rw [up2_ne (Or.inr (by decide)), up2_ne (Or.inr (by decide)), up2_ne (Or.inr (by decide)), up2_ne (Or.inr (by decide)), up2_at]
        rfl
      · rw [up2_ne (Or.inr (by decide)), up2_ne (Or.inr (by decide)), up2_ne (Or.inr (by decide)), up2_at]
        rfl
      · rw [up2_ne (Or.inr (by decide)), up2_ne (Or.inr (by decide)), up2_at]
        rfl
      · rw [up2_ne (Or.inr (by decide)), up2_at]
        rfl
      · rw [up2_at]
        rfl
      · omega⟩
    rw [eg]
    refine a_s rfl rfl ?_
    refine a_s6 rfl rfl rfl rfl rfl rfl ?_
    refine a_inv (n := 20) (fun m ls h => ∃ j, j + m = 20 ∧ ls = [some (.ref 420), some (.int x1), some (.int x2), some (.int x3), some (.int x4), some (.int x5), some (.int (nI j))] ∧ h = hp (upr (upr (up2 I 420 0 0) 427 g) 426 (tpF (I 426) l j x1 x2 x3 x4 x5)) L w1 w2 t) ⟨0, rfl, rfl, by
      rw [tpF_0]
      congr 1
      congr 1
      funext q
      by_cases hq : q = 426
      · subst hq
        rw [upr_at, upr_row (by decide), up2_row (by decide)]
      · rw [upr_row hq]⟩ ?_
    rintro m _ _ ⟨j, hj, rfl, rfl⟩ ih
    refine a_l6 rfl rfl rfl ?_
    refine a_s rfl rfl ?_
    refine a_ic_ge rfl (fun c2 => ?_) (fun c2 => ?_)
    · refine a_l0 rfl rfl rfl ?_
      refine a_s rfl rfl ?_
      refine a_geti rfl gfX12_78_12 rfl ?_
      refine a_top (y := nI l) (by rw [upr_row (by decide), upr_row (by decide)]; exact (up2_ne (Or.inr (by decide))).trans hl) ?_
      refine a_s rfl rfl ?_
      refine a_s rfl rfl ?_
      refine a_top (y := nI (l + 20)) (nI_addl l 20) ?_
      refine a_puti rfl pfX12_78_12 rfl ?_
      refine a_l0 rfl rfl rfl ?_
      refine a_geti rfl gfX12_78_12 rfl ?_
      refine a_top (y := nI (l + 20)) up2_at ?_
      have hge := nI_ge_of (b := 20) c2 (by omega) (by decide)
      obtain rfl : j = 20 := by omega
      exact a_iret rfl rfl ⟨rfl, g, rfl⟩
    · have hj2 : j < 20 := nI_lt_of (b := 20) c2 (by omega) (by decide)
      refine a_l0 rfl rfl rfl ?_
      refine a_getq rfl gfX12_29_12 rfl (rfl) ?_
      refine a_l0 rfl rfl rfl ?_
      refine a_geti rfl gfX12_78_12 rfl ?_
      refine a_top (y := nI l) (by rw [upr_row (by decide), upr_row (by decide)]; exact (up2_ne (Or.inr (by decide))).trans hl) ?_
      refine a_l6 rfl rfl rfl ?_
      refine a_s rfl rfl ?_
      refine a_top (y := nI (l + j)) (nI_addl l j) ?_
      refine a_l0 rfl rfl rfl ?_
      refine a_getq rfl gfX12_36_12 rfl (rfl) ?_
      refine a_l6 rfl rfl rfl ?_
      refine a_s rfl rfl ?_
      refine a_idiv rfl (by decide) ?_
      refine a_top (y := nI (j / 4)) (nI_div4 j hj2).1 ?_
      refine a_iald rfl (n := 5) rfl (inI_nI (by omega) (by omega)) ?_
      refine a_s rfl rfl ?_
      refine a_s rfl rfl ?_
      refine a_l6 rfl rfl rfl ?_
      refine a_s rfl rfl ?_
      refine a_irem rfl (by decide) ?_
      refine a_s rfl rfl ?_
      refine a_s rfl rfl ?_
      refine a_s rfl rfl ?_
      refine a_s rfl rfl ?_
      refine a_top (y := fbF x1 x2 x3 x4 x5 j) (by rw [upr_row (by decide), upr_at, nI_clamp (by omega), hg (j / 4) (by omega), sh_ok j hj2]; rfl) ?_
      refine a_bastv (k := l + j) rfl (n := 400) rfl (inI_nI (by omega) (by omega)) (by unfold fbF byA; exact i2b_id _) (nI_clamp (by omega)) ?_
      rw [up_tp]
      refine a_i6 rfl rfl rfl ?_
      refine a_goto rfl ?_
      exact a_less (ih (m - 1) _ _ (by omega) ⟨j + 1, by omega, rfl, rfl⟩) ⟨rfl, rfl, rfl, rfl, rfl, rfl, nS _, trivial⟩
  · have hc : ¬ l + 20 ≤ 400 := fun z => c (nI_leu z (by decide))
    simp only [if_neg hc]
    refine a_s rfl rfl ?_
    exact a_iret rfl rfl ⟨rfl, I 427, rfl⟩
end T79j
end
section
/-! ===== law, on both sides, as the law's round calls it ===== -/
section T79k
variable {S : aS} {I : Nat → Nat → Int32} {L : Nat → Nat → Int64} {w1 w2 t : Nat} {e : Nat} {T : Nat → Int32}
set_option maxRecDepth 100000
theorem f_clear : SpE S m_X2_clear 12 [.ref 226] (hp I L w1 w2 t) none (hp (up2 (up2 I 226 0 0) 226 1 0) L w1 w2 t) := by
  refine SpE_of ok_X2_clear rfl rfl ?_
  show AW S m_X2_clear 12 _ _ 0 0 0 [some (.ref 226)] [] (hp I L w1 w2 t)
  refine a_l0 rfl rfl rfl ?_
  refine a_s rfl rfl ?_
  refine a_puti rfl pfX2_11_2 rfl ?_
  refine a_l0 rfl rfl rfl ?_
  refine a_s rfl rfl ?_
  refine a_puti rfl pfX2_41_2 rfl ?_
  exact a_vret rfl rfl ⟨rfl, rfl⟩
theorem sW_sM : ∀ q k, sW q k = true → sM q k = true := fun q k h => by
  have B : ∀ {a b : Nat}, Nat.beq a b = true → a = b := fun z => Nat.eq_of_beq_eq_true z
  have E : ∀ {a b : Nat}, Nat.ble a b = true → a ≤ b := fun z => Nat.le_of_ble_eq_true z
  have hq : (221 ≤ q ∧ q ≤ 234) ∨ (q = 220 ∧ (k = 4 ∨ k = 5)) := by
    simp only [sW, sC, Bool.or_eq_true, Bool.and_eq_true] at h
    rcases h with (h | h | h | ⟨h, h' | h'⟩ | ⟨h, h'⟩) | ⟨h, h'⟩ | ⟨h, h'⟩ | ⟨h, h'⟩
    · have := B h; omega
    · have := B h; omega
    · have := B h; omega
    · have := B h; have := B h'; omega
    · have := B h; have := B h'; omega
    · have := B h; omega
    · have := E h; have := E h'; omega
    · have := E h; have := E h'; omega
    · have := B h; omega
  rcases hq with hq | ⟨rfl, rfl | rfl⟩
  · exact sM_mid (by omega) (by omega) fun z => by have := isSt_lt q (by omega) z; omega
  · rfl
  · rfl
/-- the class's law behind a text -/
def LwC (r : LRs) (J : Nat → Nat → Int32) : Prop := J 200 3 = -1 ∧ J 200 13 = 0 ∧ J 246 0 = nI r.2.2.2.length ∧ LnL (J 247) (J 248) (J 249) (J 250) r.2.2.2 ∧ RowL (J 251) r.2.2.1
theorem f_lawC (hw : WdS S) (he : I 201 1 = nI e) (h4 : e ≤ 400) (hbt : BtT T) (hT : I 202 = T) (hm : I 220 1 = 12) : Sp S m_X11_law 21 1 6 [.ref 200] (hp I L w1 w2 t) (fun v h' => v = some (.int (nI (lawP T e).2.2.2.length)) ∧ (lawP T e).1 = true ∧ ∃ J w, h' = hp J L w1 w t ∧ WK w ∧ Mt0 I J ∧ LwC (lawP T e) J) (fun E h' => E = exN 1 ∧ (lawP T e).1 = false ∧ ∃ J w, h' = hp J L w1 w 0 ∧ WK w ∧ Mt0 I J ∧ J 200 3 = nI (lawP T e).2.1) := by
  refine Sp_of ok_X11_law rfl rfl ?_
  show AW S m_X11_law 21 _ _ 1 6 0 [some (.ref 200)] [] (hp I L w1 w2 t)
  refine a_l0 rfl rfl rfl ?_
  refine a_getq rfl gfX11_26_11 rfl (rfl) ?_
  refine a_getq rfl gfX11_98_3 rfl (rfl) ?_
  refine a_eV0 rfl lX11_100 mo_X2_clear f_clear rfl rfl rfl ⟨2, _, rfl, rfl, rfl⟩ rfl ?_
  refine a_l0 rfl rfl rfl ?_
  refine a_l0 rfl rfl rfl ?_
  refine a_getq rfl gfX11_26_11 rfl (rfl) ?_
  refine a_l0 rfl rfl rfl ?_
  refine a_getq rfl gfX11_10_11 rfl (rfl) ?_
  have g1 : ∀ q, q ≠ 226 → up2 (up2 I 226 0 0) 226 1 0 q = I q := fun q hq => by rw [up2_row hq, up2_row hq]
  refine a_callU rfl lu_103 dc_readLines mo_X8_readLines hx_rl (f_readLines hw ((congrFun (g1 201 (by decide)) 1).trans he) h4 (by rw [g1 202 (by decide), hT]; exact hbt) ((congrFun (g1 220 (by decide)) 1).trans hm) ((up2_ne (Or.inr (by decide))).trans up2_at) up2_at) rfl rfl rfl ⟨3, _, rfl, rfl, rfl⟩ rfl (fun v' h' hv => ?_) (fun _ _ z => False.elim z)
  rw [g1 202 (by decide), hT] at hv
  obtain ⟨rfl, J, w, rfl, hww, hF, hy⟩ := hv
  have fM : Mt I J := Mt.of (Fm.tr (Fm.up (Fm.up Fm.rf rfl) rfl) (Fm.mo hF sW_sM))
  rcases er : lawP T e with ⟨z, b1, o1, l1⟩
  rw [er] at hy
  cases z with
  | false =>
    rw [if_neg Bool.false_ne_true]
    refine a_puti rfl pfX11_30_11 rfl ?_
    refine a_l0 rfl rfl rfl ?_
    refine a_getq rfl gfX11_10_11 rfl (rfl) ?_
    refine a_s rfl rfl ?_
    refine a_puti rfl pfX11_68_7 rfl ?_
    have fM0 : Mt0 I (up2 (up2 J 200 3 (nI b1)) 201 1 0) := Mt0.mk (Mt.fm fM (Fm.up Fm.rf rfl))
    have e3 : up2 (up2 J 200 3 (nI b1)) 201 1 0 200 3 = nI b1 := (congrFun (up2_row (by decide)) 3).trans up2_at
    refine a_l0 rfl rfl rfl ?_
    refine a_getiv (v := nI b1) rfl gfX11_30_11 rfl (e3) ?_
    refine a_s rfl rfl ?_
    have hb1 : b1 < 2 ^ 31 := by
      have := lawP_le (T := T) (e := e)
      rw [er] at this
      have this : b1 ≤ e := this
      omega
    refine a_ic_eq rfl (fun c => absurd c ?_) (fun _ => ?_)
    · intro z
      have := nI_pos hb1
      rw [z] at this
      exact this (by decide)
    exact a_throw rfl rfl rfl rfl tX11_iae rfl rfl rfl rfl rfl ⟨rfl, rfl, _, w, rfl, hww, fM0, e3⟩
  | true =>
    rw [if_pos rfl]
    obtain ⟨y1, y2, y3, y4, -, -⟩ := hy rfl
    refine a_puti rfl pfX11_30_11 rfl ?_
    refine a_l0 rfl rfl rfl ?_
    refine a_getq rfl gfX11_10_11 rfl (rfl) ?_
    refine a_s rfl rfl ?_
    refine a_puti rfl pfX11_68_7 rfl ?_
    have fM0 : Mt0 I (up2 (up2 J 200 3 (-1)) 201 1 0) := Mt0.mk (Mt.fm fM (Fm.up Fm.rf rfl))
    refine a_l0 rfl rfl rfl ?_
    refine a_getiv (v := (-1)) rfl gfX11_30_11 rfl ((congrFun (up2_row (by decide)) 3).trans up2_at) ?_
    refine a_s rfl rfl ?_
    refine a_ic_eq rfl (fun _ => ?_) (fun c => absurd rfl c)
    refine a_l0 rfl rfl rfl ?_
    refine a_getq rfl gfX11_44_11 rfl (rfl) ?_
    refine a_l0 rfl rfl rfl ?_
    refine a_getq rfl gfX11_26_11 rfl (rfl) ?_
    refine a_getq rfl gfX11_98_3 rfl (rfl) ?_
    refine a_eV0 rfl lX11_104 mo_X2_copyFrom (sp_X2_copyFrom (a := 246) (b := 226) (by decide) (by decide) (by decide)) rfl rfl rfl ⟨2, _, rfl, rfl, rfl⟩ rfl ?_
    refine a_l0 rfl rfl rfl ?_
    refine a_s rfl rfl ?_
    refine a_puti rfl pfX11_95_11 rfl ?_
    have fM1 : Mt0 I (up2 (cpL (up2 (up2 J 200 3 (-1)) 201 1 0) 246 226) 200 13 0) := Mt0.fm (Mt0.fm fM0 (Fm.cl (Fm.rf (s := sM)) (by decide) Fm_l246)) (Fm.up Fm.rf rfl)
    have r0 : ∀ k, up2 (cpL (up2 (up2 J 200 3 (-1)) 201 1 0) 246 226) 200 13 0 246 k = cpL (up2 (up2 J 200 3 (-1)) 201 1 0) 246 226 246 k := fun k => congrFun (up2_row (by decide)) k
    have e0 : up2 (cpL (up2 (up2 J 200 3 (-1)) 201 1 0) 246 226) 200 13 0 246 0 = nI l1.length := by
      rw [r0]
      unfold cpL
      rw [up2_at, up2_row (by decide), up2_row (by decide)]
      exact y3
    have ri : ∀ i, i < 5 → up2 (cpL (up2 (up2 J 200 3 (-1)) 201 1 0) 246 226) 200 13 0 (247 + i) = J (227 + i) := fun i hi => by
      rw [up2_row (by omega)]
      unfold cpL
      rw [up2_row (by omega), show 247 + i = 246 + 1 + i from rfl, cpS_in hi, up2_row (by omega), up2_row (by omega)]
    refine a_l0 rfl rfl rfl ?_
    refine a_getq rfl gfX11_44_11 rfl (rfl) ?_
    refine a_getiv (v := nI l1.length) rfl gfX11_107_2 rfl (e0) ?_
    refine a_iret rfl rfl ⟨rfl, rfl, _, w, rfl, hww, fM1, ?_, up2_at, e0, ?_, ?_⟩
    · rw [up2_ne (Or.inr (by decide))]
      unfold cpL
      rw [up2_row (by decide), cpS_out (by decide), up2_row (by decide)]
      exact up2_at
    · rw [show (247 : Nat) = 247 + 0 from rfl, show (248 : Nat) = 247 + 1 from rfl, show (249 : Nat) = 247 + 2 from rfl, show (250 : Nat) = 247 + 3 from rfl, ri 0 (by decide), ri 1 (by decide), ri 2 (by decide), ri 3 (by decide)]
      exact y4
    · rw [show (251 : Nat) = 247 + 4 from rfl, ri 4 (by decide)]
      exact y2
theorem h_thrown : SpE S m_X12_thrown 12 [.ref 420] (hp I L w1 w2 t) (some (.int (I 420 0))) (hp I L w1 w2 t) := by
  refine SpE_of ok_X12_thrown rfl rfl ?_
  show AW S m_X12_thrown 12 _ _ 0 0 0 [some (.ref 420)] [] (hp I L w1 w2 t)
  refine a_l0 rfl rfl rfl ?_
  refine a_geti rfl gfX12_3_12 rfl ?_
  exact a_iret rfl rfl ⟨rfl, rfl⟩
/-- both tapes hold the same, bytes; the readers' bounds are what they were made -/
def Tp (I : Nat → Nat → Int32) : Prop := I 426 = I 202 ∧ BtT (I 202) ∧ I 203 1 = 14 ∧ I 220 1 = 12
theorem Tp.eq {J : Nat → Nat → Int32} (h : Tp I) (e6 : J 426 = I 426) (e2 : J 202 = I 202) (a : J 203 1 = I 203 1) (b : J 220 1 = I 220 1) : Tp J := ⟨e6.trans (h.1.trans e2.symm), by rw [e2]; exact h.2.1, a.trans h.2.2.1, b.trans h.2.2.2⟩
theorem Tp.m {J : Nat → Nat → Int32} (h : Tp I) (f : Mt I J) : Tp J := h.eq (f.1 426 (by decide)) f.2.2.2.2.1 f.2.2.2.2.2.1 f.2.2.2.2.2.2
theorem Tp.r {J : Nat → Nat → Int32} (h : Tp I) (g : ∀ q, (q < 420 ∨ q = 426) → J q = I q) : Tp J := h.eq (g 426 (Or.inr rfl)) (g 202 (by decide)) (by rw [g 203 (by decide)]) (by rw [g 220 (by decide)])
theorem Tp.f {J : Nat → Nat → Int32} (h : Tp I) (g : ∀ q, q ≠ 201 → q ≠ 420 → J q = I q) : Tp J := h.eq (g 426 (by decide) (by decide)) (g 202 (by decide) (by decide)) (by rw [g 203 (by decide) (by decide)]) (by rw [g 220 (by decide) (by decide)])
end T79k
end
section
/-! ===== the class's tokens of the street's reader (printed by program) ===== -/
section T79l
variable {S : aS} {I : Nat → Nat → Int32} {L : Nat → Nat → Int64} {w1 w2 t : Nat} {e n j b : Nat} {T : Nat → Int32}
set_option maxRecDepth 100000
def opHs (I : Nat → Nat → Int32) (n : Nat) (x y : Int32) : Nat → Nat → Int32 := up2 (up2 (up2 (up2 I 205 n x) 206 n y) 207 n y) 204 4 (nI (n + 1))
theorem s_open (h4 : I 204 4 = nI n) (hn : n < 401) {x y : Int32} : SpE S m_X9_open 13 [.ref 204, .int x, .int y] (hp I L w1 w2 t) none (hp (opHs I n x y) L w1 w2 t) := by
  refine SpE_of ok_X9_open rfl rfl ?_
  show AW S m_X9_open 13 _ _ 0 0 0 [some (.ref 204), some (.int x), some (.int y)] [] (hp I L w1 w2 t)
  refine a_l0 rfl rfl rfl ?_
  refine a_getq rfl gfX9_9_9 rfl (rfl) ?_
  refine a_l0 rfl rfl rfl ?_
  refine a_getiv (v := nI n) rfl gfX9_24_9 rfl (h4) ?_
  refine a_l1 rfl rfl rfl ?_
  refine a_eSN0 rfl lX9_44 mo_X11_setAt (sp_X11_setAt rfl) rfl rfl rfl rfl ?_
  rw [setF_nI hn (by decide)]
  refine a_l0 rfl rfl rfl ?_
  refine a_getq rfl gfX9_15_9 rfl (rfl) ?_
  refine a_l0 rfl rfl rfl ?_
  refine a_getiv (v := nI n) rfl gfX9_24_9 rfl ((congrFun (up2_row (by decide)) 4).trans h4) ?_
  refine a_l2 rfl rfl rfl ?_
  refine a_eSN0 rfl lX9_44 mo_X11_setAt (sp_X11_setAt rfl) rfl rfl rfl rfl ?_
  rw [setF_nI hn (by decide)]
  refine a_l0 rfl rfl rfl ?_
  refine a_getq rfl gfX9_18_9 rfl (rfl) ?_
  refine a_l0 rfl rfl rfl ?_
  refine a_getiv (v := nI n) rfl gfX9_24_9 rfl ((congrFun (up2_row (by decide)) 4).trans ((congrFun (up2_row (by decide)) 4).trans h4)) ?_
  refine a_l2 rfl rfl rfl ?_
  refine a_eSN0 rfl lX9_44 mo_X11_setAt (sp_X11_setAt rfl) rfl rfl rfl rfl ?_
  rw [setF_nI hn (by decide)]
  refine a_l0 rfl rfl rfl ?_
  refine a_s rfl rfl ?_
  refine a_getiv (v := nI n) rfl gfX9_24_9 rfl ((congrFun (up2_row (by decide)) 4).trans ((congrFun (up2_row (by decide)) 4).trans ((congrFun (up2_row (by decide)) 4).trans h4))) ?_
  refine a_s rfl rfl ?_
  refine a_s rfl rfl ?_
  refine a_top (y := nI (n + 1)) ((nI_succ n).symm) ?_
  refine a_puti rfl pfX9_24_9 rfl ?_
  exact a_vret rfl rfl ⟨rfl, rfl⟩
def TkJs (I : Nat → Nat → Int32) (e j b : Nat) : Prop := I 205 j = nI (kd (I 202) e b) ∧ I 206 j = nI b ∧ I 207 j = nI (en (I 202) e b)
theorem s_isText (hw : WdS S) (he : I 201 1 = nI e) (h4 : e ≤ 400) (hbt : BtT (I 202)) (hj : j < 401) (hb : b < e) (hk : kd (I 202) e b = 1) (hT : TkJs I e j b) {k : Nat} (hk3 : k < 27) : SpE S m_X9_isText 16 [.ref 204, .ref 201, .int (nI j), .ref (130 + k)] (hp I L w1 w2 t) (some (.int (bI (isW (I 202) b (en (I 202) e b - b) k)))) (hp I L w1 w2 t) := by
  have h1 := en_ge (T := I 202) (e := e) (b := b)
  have h2 := en_le (T := I 202) (Nat.le_of_lt hb)
  have h3 := wLen_lt k hk3
  obtain ⟨-, t2, t3⟩ := hT
  refine SpE_of ok_X9_isText rfl rfl ?_
  show AW S m_X9_isText 16 _ _ 0 0 0 [some (.ref 204), some (.ref 201), some (.int (nI j)), some (.ref (130 + k)), none, none] [] (hp I L w1 w2 t)
  refine a_l0 rfl rfl rfl ?_
  refine a_getq rfl gfX9_15_9 rfl (rfl) ?_
  refine a_l2 rfl rfl rfl ?_
  refine a_eSN1 rfl lX9_58 mo_X11_at (sp_X11_at rfl) rfl rfl rfl rfl ?_
  refine a_top (y := nI b) ((atF_nI hj (by decide)).trans t2) ?_
  refine a_s4 rfl rfl rfl rfl rfl rfl ?_
  refine a_l0 rfl rfl rfl ?_
  refine a_getq rfl gfX9_18_9 rfl (rfl) ?_
  refine a_l2 rfl rfl rfl ?_
  refine a_eSN1 rfl lX9_58 mo_X11_at (sp_X11_at rfl) rfl rfl rfl rfl ?_
  refine a_top (y := nI (en (I 202) e b)) ((atF_nI hj (by decide)).trans t3) ?_
  refine a_l4 rfl rfl rfl ?_
  refine a_s rfl rfl ?_
  refine a_top (y := nI (en (I 202) e b - b)) (nI_sub h1) ?_
  refine a_l3 rfl rfl rfl ?_
  refine a_eK1 rfl lX9_82 mo_J0_length_8abf5 (q_strlen hw hk3) rfl rfl rfl (hw.so hk3) rfl ?_
  refine a_ic_eq rfl (fun c => ?_) (fun c => ?_)
  rotate_left
  · refine a_s rfl rfl ?_
    refine a_zret rfl rfl rfl ⟨?_, rfl⟩
    rw [show isW (I 202) b (en (I 202) e b - b) k = false from decide_eq_false fun z => c (congrArg nI z.1)]
    rfl
  have hl : en (I 202) e b - b = wLen k := nI_inj (by omega) h3 c
  refine a_s rfl rfl ?_
  refine a_s5 rfl rfl rfl rfl rfl rfl ?_
  refine a_inv (n := wLen k) (fun m ls h => ∃ i, ls = [some (.ref 204), some (.ref 201), some (.int (nI j)), some (.ref (130 + k)), some (.int (nI b)), some (.int (nI i))] ∧ h = hp I L w1 w2 t ∧ i ≤ wLen k ∧ m = wLen k - i ∧ ∀ q, q < i → I 202 (b + q) = wC k q) ⟨0, rfl, rfl, Nat.zero_le _, rfl, fun q hq => absurd hq (Nat.not_lt_zero _)⟩ ?_
  rintro m _ _ ⟨i, rfl, rfl, hi, hm, hq⟩ ih
  refine a_l5 rfl rfl rfl ?_
  refine a_l3 rfl rfl rfl ?_
  refine a_eK1 rfl lX9_82 mo_J0_length_8abf5 (q_strlen hw hk3) rfl rfl rfl (hw.so hk3) rfl ?_
  refine a_ic_ge rfl (fun c2 => ?_) (fun c2 => ?_)
  · have hge := nI_ge_of c2 (by omega) h3
    refine a_s rfl rfl ?_
    refine a_zret rfl rfl rfl ⟨?_, rfl⟩
    rw [show isW (I 202) b (en (I 202) e b - b) k = true from decide_eq_true ⟨hl, fun q hq2 => hq q (by omega)⟩]
    rfl
  have hil : i < wLen k := nI_lt_of c2 (by omega) h3
  refine a_l1 rfl rfl rfl ?_
  refine a_l4 rfl rfl rfl ?_
  refine a_l5 rfl rfl rfl ?_
  refine a_s rfl rfl ?_
  refine a_top (y := nI (b + i)) (nI_addl b i) ?_
  refine a_eV1 rfl lX9_33 mo_X7_byteAt (f_byteAt he h4 (by omega)) rfl rfl rfl ⟨7, _, rfl, rfl, rfl⟩ rfl ?_
  have hbi : b + i < e := by omega
  refine a_top (y := I 202 (b + i) &&& 255) (if_pos hbi) ?_
  have hkc : kcF (I 202 (b + i)) = 1 := by
    rw [en_1 hk] at hl
    exact isK_kc (rn_all (T := I 202) (e := e) (k := 1) (p := b) (Nat.le_add_right _ _) (by omega))
  obtain ⟨x, hx, ex⟩ := hbt (b + i) (by omega)
  have e255 : I 202 (b + i) &&& 255 = I 202 (b + i) := by
    rw [ex] at hkc ⊢
    exact bt_lt x hx hkc
  refine a_top (y := I 202 (b + i)) (e255) ?_
  refine a_l3 rfl rfl rfl ?_
  refine a_l5 rfl rfl rfl ?_
  refine a_eK1 rfl lX9_87 mo_J0_charAt_5068e (q_charAt hw hk3 hil) rfl rfl rfl (hw.so hk3) rfl ?_
  refine a_ic_eq rfl (fun c3 => ?_) (fun c3 => ?_)
  · refine a_iv5 (y := nI (i + 1)) rfl rfl rfl ((nI_succ i).symm) ?_
    refine a_goto rfl ?_
    refine ih (wLen k - (i + 1)) _ _ (by omega) ⟨i + 1, rfl, rfl, by omega, rfl, fun q hq2 => ?_⟩
    by_cases c4 : q = i
    · rw [c4]
      exact c3
    · exact hq q (by omega)
  · refine a_s rfl rfl ?_
    refine a_zret rfl rfl rfl ⟨?_, rfl⟩
    rw [show isW (I 202) b (en (I 202) e b - b) k = false from decide_eq_false fun z => c3 (z.2 i hil)]
    rfl
theorem s_wordOf (hw : WdS S) (he : I 201 1 = nI e) (h4 : e ≤ 400) (hbt : BtT (I 202)) (hj : j < 401) (hb : b < e) (hk : kd (I 202) e b = 1) (hT : TkJs I e j b) : SpE S m_X9_wordOf 17 [.ref 204, .ref 201, .int (nI j)] (hp I L w1 w2 t) (some (.int (if wd (I 202) e b < 27 then nI (wd (I 202) e b) else -1))) (hp I L w1 w2 t) := by
  have hs := srA_all (isW (I 202) b (en (I 202) e b - b)) 27 0
  refine SpE_of ok_X9_wordOf rfl rfl ?_
  show AW S m_X9_wordOf 17 _ _ 0 0 0 [some (.ref 204), some (.ref 201), some (.int (nI j)), none, none] [] (hp I L w1 w2 t)
  refine a_s rfl rfl ?_
  refine a_s3 rfl rfl rfl rfl rfl rfl ?_
  refine a_inv (n := 27) (fun m ls h => ∃ i, ls = [some (.ref 204), some (.ref 201), some (.int (nI j)), some (.int (nI i)), none] ∧ h = hp I L w1 w2 t ∧ i ≤ 27 ∧ m = 27 - i ∧ i ≤ wd (I 202) e b) ⟨0, rfl, rfl, Nat.zero_le _, rfl, Nat.zero_le _⟩ ?_
  rintro m _ _ ⟨i, rfl, rfl, hi, hm, hq⟩ ih
  refine a_l3 rfl rfl rfl ?_
  refine a_gets rfl (inC4 (i := 0) rfl rfl) hw.al ?_
  refine a_lenc rfl hw.ar rfl ?_
  refine a_ic_ge rfl (fun c2 => ?_) (fun c2 => ?_)
  · have hge := nI_ge_of (b := 27) c2 (by omega) (by decide)
    refine a_s rfl rfl ?_
    refine a_iret rfl rfl ⟨?_, rfl⟩
    rw [if_neg (by omega)]
  have hil : i < 27 := nI_lt_of (b := 27) c2 (by omega) (by decide)
  refine a_gets rfl (inC4 (i := 0) rfl rfl) hw.al ?_
  refine a_l3 rfl rfl rfl ?_
  refine a_aaldc rfl hw.ar rfl (inI_nI hil (by decide)) ?_
  refine a_pop1 (st := [.ref (100 + i)]) (by rw [nI_clamp (by omega)]) ?_
  refine a_s4 rfl rfl rfl rfl rfl rfl ?_
  refine a_l4 rfl rfl rfl ?_
  refine a_ifnull_f rfl ?_
  refine a_l0 rfl rfl rfl ?_
  refine a_l1 rfl rfl rfl ?_
  refine a_l2 rfl rfl rfl ?_
  refine a_l4 rfl rfl rfl ?_
  refine a_getc rfl (inC10 (i := 50) rfl rfl) (hw.tx hil) ?_
  refine a_eV1 rfl lX9_78 mo_X9_isText (s_isText hw he h4 hbt hj hb hk hT hil) rfl rfl rfl ⟨9, _, rfl, rfl, rfl⟩ rfl ?_
  cases c3 : isW (I 202) b (en (I 202) e b - b) i with
  | true =>
    refine a_if_eq rfl (fun c => absurd c (by decide)) (fun _ => ?_)
    refine a_l3 rfl rfl rfl ?_
    refine a_iret rfl rfl ⟨?_, rfl⟩
    rw [wd_eq hil c3, if_pos hil]
  | false =>
    refine a_if_eq rfl (fun _ => ?_) (fun c => absurd rfl c)
    refine a_iv3 (y := nI (i + 1)) rfl rfl rfl ((nI_succ i).symm) ?_
    refine a_goto rfl ?_
    refine a_less (ih (27 - (i + 1)) _ _ (by omega) ⟨i + 1, rfl, rfl, by omega, rfl, ?_⟩) ⟨rfl, rfl, rfl, rfl, trivial⟩
    rcases Nat.lt_or_ge (wd (I 202) e b) (i + 1) with z | z
    · exfalso
      have hwi : wd (I 202) e b = i := by omega
      have := wd_is (T := I 202) (e := e) (b := b) (by omega)
      rw [hwi, c3] at this
      cases this
    · exact z
theorem s_numberOf (he : I 201 1 = nI e) (h4 : e ≤ 400) (hbt : BtT (I 202)) (hj : j < 401) (hb : b < e) (hk : kd (I 202) e b = 2) (hT : TkJs I e j b) : SpE S m_X9_numberOf 13 [.ref 204, .ref 201, .int (nI j)] (hp I L w1 w2 t) (some (.int (if 3 < en (I 202) e b - b then -1 else nuF (I 202) b (en (I 202) e b - b)))) (hp I L w1 w2 t) := by
  have h1 := en_ge (T := I 202) (e := e) (b := b)
  have h2 := en_le (T := I 202) (Nat.le_of_lt hb)
  obtain ⟨-, t2, t3⟩ := hT
  refine SpE_of ok_X9_numberOf rfl rfl ?_
  show AW S m_X9_numberOf 13 _ _ 0 0 0 [some (.ref 204), some (.ref 201), some (.int (nI j)), none, none, none, none] [] (hp I L w1 w2 t)
  refine a_l0 rfl rfl rfl ?_
  refine a_getq rfl gfX9_15_9 rfl (rfl) ?_
  refine a_l2 rfl rfl rfl ?_
  refine a_eSN1 rfl lX9_58 mo_X11_at (sp_X11_at rfl) rfl rfl rfl rfl ?_
  refine a_top (y := nI b) ((atF_nI hj (by decide)).trans t2) ?_
  refine a_s3 rfl rfl rfl rfl rfl rfl ?_
  refine a_l0 rfl rfl rfl ?_
  refine a_getq rfl gfX9_18_9 rfl (rfl) ?_
  refine a_l2 rfl rfl rfl ?_
  refine a_eSN1 rfl lX9_58 mo_X11_at (sp_X11_at rfl) rfl rfl rfl rfl ?_
  refine a_top (y := nI (en (I 202) e b)) ((atF_nI hj (by decide)).trans t3) ?_
  refine a_s4 rfl rfl rfl rfl rfl rfl ?_
  refine a_l4 rfl rfl rfl ?_
  refine a_l3 rfl rfl rfl ?_
  refine a_s rfl rfl ?_
  refine a_top (y := nI (en (I 202) e b - b)) (nI_sub h1) ?_
  refine a_s rfl rfl ?_
  refine a_ic_le rfl (fun c => ?_) (fun c => ?_)
  rotate_left
  · refine a_s rfl rfl ?_
    refine a_iret rfl rfl ⟨?_, rfl⟩
    rw [if_pos (Nat.not_le.mp fun z => c (nI_leu (j := 3) z (by decide)))]
  have hle : ¬ 3 < en (I 202) e b - b := fun z => absurd (nI_ltu (n := 3) z (by omega)) (Int32.not_lt.mpr c)
  refine a_s rfl rfl ?_
  refine a_s5 rfl rfl rfl rfl rfl rfl ?_
  refine a_l3 rfl rfl rfl ?_
  refine a_s6 rfl rfl rfl rfl rfl rfl ?_
  refine a_inv (n := en (I 202) e b - b) (fun m ls h => ∃ i, ls = [some (.ref 204), some (.ref 201), some (.int (nI j)), some (.int (nI b)), some (.int (nI (en (I 202) e b))), some (.int (nuF (I 202) b i)), some (.int (nI (b + i)))] ∧ h = hp I L w1 w2 t ∧ b + i ≤ en (I 202) e b ∧ m = en (I 202) e b - b - i) ⟨0, rfl, rfl, h1, rfl⟩ ?_
  rintro m _ _ ⟨i, rfl, rfl, hi, hm⟩ ih
  refine a_l6 rfl rfl rfl ?_
  refine a_l4 rfl rfl rfl ?_
  refine a_ic_ge rfl (fun c2 => ?_) (fun c2 => ?_)
  · have hge := nI_ge_of c2 (by omega) (by omega)
    refine a_l5 rfl rfl rfl ?_
    refine a_iret rfl rfl ⟨?_, rfl⟩
    rw [if_neg hle, show en (I 202) e b - b = i by omega]
  have hil : b + i < en (I 202) e b := nI_lt_of c2 (by omega) (by omega)
  refine a_l5 rfl rfl rfl ?_
  refine a_s rfl rfl ?_
  refine a_s rfl rfl ?_
  refine a_l1 rfl rfl rfl ?_
  refine a_l6 rfl rfl rfl ?_
  refine a_eV1 rfl lX9_33 mo_X7_byteAt (f_byteAt he h4 (by omega)) rfl rfl rfl ⟨7, _, rfl, rfl, rfl⟩ rfl ?_
  refine a_top (y := I 202 (b + i) &&& 255) (if_pos (by omega)) ?_
  have hkc : kcF (I 202 (b + i)) = 2 := by
    rw [en_2 hk] at hil
    exact isK_kc (rn_all (T := I 202) (e := e) (k := 2) (p := b) (Nat.le_add_right _ _) hil)
  obtain ⟨x, hx, ex⟩ := hbt (b + i) (by omega)
  have e255 : I 202 (b + i) &&& 255 = I 202 (b + i) := by
    rw [ex] at hkc ⊢
    exact (bt_dg x hx hkc).1
  refine a_top (y := I 202 (b + i)) (e255) ?_
  refine a_s rfl rfl ?_
  refine a_s rfl rfl ?_
  refine a_s rfl rfl ?_
  refine a_s5 rfl rfl rfl rfl rfl rfl ?_
  refine a_iv6 (y := nI (b + (i + 1))) rfl rfl rfl ((nI_succ (b + i)).symm) ?_
  refine a_goto rfl ?_
  exact ih (en (I 202) e b - b - (i + 1)) _ _ (by omega) ⟨i + 1, rfl, rfl, by omega, rfl⟩
theorem s_valueOf (hw : WdS S) (he : I 201 1 = nI e) (h4 : e ≤ 400) (hbt : BtT (I 202)) (hj : j < 401) (hbe : b ≤ e) (hnb : kd (I 202) e b ≠ 4) (hT : TkJs I e j b) : SpE S m_X9_valueOf 18 [.ref 204, .ref 201, .int (nI j)] (hp I L w1 w2 t) (some (.int (vl (I 202) e b))) (hp I L w1 w2 t) := by
  refine SpE_of ok_X9_valueOf rfl rfl ?_
  show AW S m_X9_valueOf 18 _ _ 0 0 0 [some (.ref 204), some (.ref 201), some (.int (nI j))] [] (hp I L w1 w2 t)
  refine a_l0 rfl rfl rfl ?_
  refine a_getq rfl gfX9_9_9 rfl (rfl) ?_
  refine a_l2 rfl rfl rfl ?_
  refine a_eSN1 rfl lX9_58 mo_X11_at (sp_X11_at rfl) rfl rfl rfl rfl ?_
  refine a_top (y := nI (kd (I 202) e b)) ((atF_nI hj (by decide)).trans hT.1) ?_
  have hk5 : kd (I 202) e b < 5 := by
    by_cases c : b < e
    · rw [kd_lt c]
      rcases kc_cases (I 202 b) with z | z | z | z <;> omega
    · rw [kd_ge c]
      omega
  have hti : (nI (kd (I 202) e b)).toInt = (kd (I 202) e b : Int) := nI_toInt (by omega)
  refine a_lsw2 rfl (by decide) (by decide) (fun hx => ?_) (fun hx => ?_) (fun hx hx2 => ?_)
  · refine a_pc (pc' := 36) (by decide) ?_
    have hk : kd (I 202) e b = 1 := by rw [hti] at hx; omega
    refine a_l0 rfl rfl rfl ?_
    refine a_l1 rfl rfl rfl ?_
    refine a_l2 rfl rfl rfl ?_
    refine a_eV1 rfl lX9_62 mo_X9_wordOf (s_wordOf hw he h4 hbt hj (kd_in (by rw [hk]; decide)) hk hT) rfl rfl rfl ⟨9, _, rfl, rfl, rfl⟩ rfl ?_
    refine a_iret rfl rfl ⟨?_, rfl⟩
    rw [vl_1 hk]
  · refine a_pc (pc' := 43) (by decide) ?_
    have hk : kd (I 202) e b = 2 := by rw [hti] at hx; omega
    refine a_l0 rfl rfl rfl ?_
    refine a_l1 rfl rfl rfl ?_
    refine a_l2 rfl rfl rfl ?_
    refine a_eV1 rfl lX9_65 mo_X9_numberOf (s_numberOf he h4 hbt hj (kd_in (by rw [hk]; decide)) hk hT) rfl rfl rfl ⟨9, _, rfl, rfl, rfl⟩ rfl ?_
    refine a_iret rfl rfl ⟨?_, rfl⟩
    rw [vl_2 hk]
  · refine a_pc (pc' := 50) (by decide) ?_
    rw [hti] at hx hx2
    refine a_l1 rfl rfl rfl ?_
    refine a_l0 rfl rfl rfl ?_
    refine a_getq rfl gfX9_15_9 rfl (rfl) ?_
    refine a_l2 rfl rfl rfl ?_
    refine a_eSN1 rfl lX9_58 mo_X11_at (sp_X11_at rfl) rfl rfl rfl rfl ?_
    refine a_top (y := nI b) ((atF_nI hj (by decide)).trans hT.2.1) ?_
    refine a_eV1 rfl lX9_33 mo_X7_byteAt (f_byteAt he h4 (by omega)) rfl rfl rfl ⟨7, _, rfl, rfl, rfl⟩ rfl ?_
    refine a_iret rfl rfl ⟨?_, rfl⟩
    by_cases c : b < e
    · have hk : kd (I 202) e b = 3 := by
        have := kd_lt (T := I 202) c
        rcases kc_cases (I 202 b) with z | z | z | z <;> omega
      rw [vl_3 hk, if_pos c]
    · rw [vl_0 (kd_ge c), if_neg c]
def Fts (I J : Nat → Nat → Int32) : Prop := ∀ q, ¬ (204 ≤ q ∧ q ≤ 208) → J q = I q
theorem Fts.rf : Fts I I := fun _ _ => rfl
theorem Fts.tr {J K : Nat → Nat → Int32} (h : Fts I J) (h2 : Fts J K) : Fts I K := fun q hq => (h2 q hq).trans (h q hq)
theorem Fts.up {J : Nat → Nat → Int32} {p k : Nat} {v : Int32} (h : Fts I J) (hp     : 204 ≤ p ∧ p ≤ 208) : Fts I (up2 J p k v) := fun q hq => by
  rw [up2_row (by intro z; subst z; exact hq hp)]
  exact h q hq
def TkAs (T : Nat → Int32) (e n : Nat) (I : Nat → Nat → Int32) : Prop := n ≤ 400 ∧ ¬ bg T e n < e ∧ I 204 4 = nI (n + 1) ∧ ∀ j, j ≤ n → I 205 j = nI (kd T e (bg T e j)) ∧ I 206 j = nI (bg T e j) ∧ I 208 j = vl T e (bg T e j)
def Ats (T : Nat → Int32) (e b w : Nat) (I : Nat → Nat → Int32) : Prop := (∃ n j, TkAs T e n I ∧ j ≤ n ∧ I 204 5 = nI j ∧ b = bg T e j) ∧ I 204 6 = nI (kd T e b) ∧ I 204 7 = nI b ∧ I 204 8 = vl T e b ∧ w = wrF T e b
theorem Ats.ki {T : Nat → Int32} {w : Nat} (h : Ats T e b w I) : I 204 6 = nI (kd T e b) := h.2.1
theorem Ats.be {T : Nat → Int32} {w : Nat} (h : Ats T e b w I) : I 204 7 = nI b := h.2.2.1
theorem Ats.va {T : Nat → Int32} {w : Nat} (h : Ats T e b w I) : I 204 8 = vl T e b := h.2.2.2.1
theorem Ats.wo {T : Nat → Int32} {w : Nat} (h : Ats T e b w I) : w = wrF T e b := h.2.2.2.2
theorem Ats.le {T : Nat → Int32} {w : Nat} (h : Ats T e b w I) : b ≤ e := by
  obtain ⟨⟨n, j, -, -, -, rfl⟩, -⟩ := h
  exact bg_le j
theorem Ats.sk {T : Nat → Int32} {w : Nat} (h : Ats T e b w I) : rn T e 4 b = b := by
  obtain ⟨⟨n, j, -, -, -, rfl⟩, -⟩ := h
  exact bg_sk j
theorem Ats.eq {T : Nat → Int32} {w : Nat} {J : Nat → Nat → Int32} (h : Ats T e b w I) (f : ∀ q, 204 ≤ q → q ≤ 208 → J q = I q) : Ats T e b w J := by
  obtain ⟨⟨n, j, ⟨a1, a2, a3, a4⟩, h2, h3, h4⟩, h5, h6, h7, h8⟩ := h
  have e1 := f 204 (by decide) (by decide)
  refine ⟨⟨n, j, ⟨a1, a2, by rw [e1]; exact a3, fun i hi => ?_⟩, h2, by rw [e1]; exact h3, h4⟩, by rw [e1]; exact h5, by rw [e1]; exact h6, by rw [e1]; exact h7, h8⟩
  rw [f 205 (by decide) (by decide), f 206 (by decide) (by decide), f 208 (by decide) (by decide)]
  exact a4 i hi
theorem s_next {T : Nat → Int32} (hw : WdS S) {n i j : Nat} (hT : TkAs T e n I) (h5 : I 204 5 + 1 = nI i) (hij : j = if i ≤ n then i else n) (hi : i ≤ 401) : Sp S m_X9_next 13 0 0 [.ref 204] (hp I L w1 w2 t) (fun v h' => v = none ∧ ∃ J w, h' = hp J L w w2 t ∧ Ats T e (bg T e j) w J ∧ ∀ q, q ≠ 204 → J q = I q) nX := by
  obtain ⟨a1, a2, a3, a4⟩ := id hT
  have hjn : j ≤ n := by
    rw [hij]
    by_cases c : i ≤ n
    · rw [if_pos c]
      exact c
    · rw [if_neg c]
      exact Nat.le_refl n
  obtain ⟨b1, b2, b3⟩ := a4 j hjn
  refine Sp_of ok_X9_next rfl rfl ?_
  show AW S m_X9_next 13 _ _ 0 0 0 [some (.ref 204)] [] (hp I L w1 w2 t)
  refine a_l0 rfl rfl rfl ?_
  refine a_l0 rfl rfl rfl ?_
  refine a_geti rfl gfX9_52_9 rfl ?_
  refine a_s rfl rfl ?_
  refine a_s rfl rfl ?_
  refine a_top (y := nI i) (h5) ?_
  refine a_l0 rfl rfl rfl ?_
  refine a_getiv (v := nI (n + 1)) rfl gfX9_24_9 rfl (a3) ?_
  refine a_s rfl rfl ?_
  refine a_s rfl rfl ?_
  refine a_top (y := nI n) (nI_dec n) ?_
  refine a_min rfl lX9_91 mj_min rfl rfl ?_
  refine a_top (y := nI j) ((min_nI (by omega) (by omega)).trans (congrArg nI hij.symm)) ?_
  refine a_puti rfl pfX9_52_9 rfl ?_
  refine a_l0 rfl rfl rfl ?_
  refine a_l0 rfl rfl rfl ?_
  refine a_getq rfl gfX9_9_9 rfl (rfl) ?_
  refine a_l0 rfl rfl rfl ?_
  refine a_getiv (v := nI j) rfl gfX9_52_9 rfl (up2_at) ?_
  refine a_eSN1 rfl lX9_58 mo_X11_at (sp_X11_at rfl) rfl rfl rfl rfl ?_
  refine a_top (y := nI (kd T e (bg T e j))) ((atF_nI (by omega) (by decide)).trans ((congrFun (up2_row (by decide)) j).trans b1)) ?_
  refine a_puti rfl pfX9_97_9 rfl ?_
  refine a_l0 rfl rfl rfl ?_
  refine a_l0 rfl rfl rfl ?_
  refine a_getq rfl gfX9_15_9 rfl (rfl) ?_
  refine a_l0 rfl rfl rfl ?_
  refine a_getiv (v := nI j) rfl gfX9_52_9 rfl ((up2_ne (Or.inr (by decide))).trans up2_at) ?_
  refine a_eSN1 rfl lX9_58 mo_X11_at (sp_X11_at rfl) rfl rfl rfl rfl ?_
  refine a_top (y := nI (bg T e j)) ((atF_nI (by omega) (by decide)).trans ((congrFun (up2_row (by decide)) j).trans ((congrFun (up2_row (by decide)) j).trans b2))) ?_
  refine a_puti rfl pfX9_100_9 rfl ?_
  refine a_l0 rfl rfl rfl ?_
  refine a_l0 rfl rfl rfl ?_
  refine a_getq rfl gfX9_21_9 rfl (rfl) ?_
  refine a_l0 rfl rfl rfl ?_
  refine a_getiv (v := nI j) rfl gfX9_52_9 rfl ((up2_ne (Or.inr (by decide))).trans ((up2_ne (Or.inr (by decide))).trans up2_at)) ?_
  refine a_eSN1 rfl lX9_58 mo_X11_at (sp_X11_at rfl) rfl rfl rfl rfl ?_
  refine a_top (y := vl T e (bg T e j)) ((atF_nI (by omega) (by decide)).trans ((congrFun (up2_row (by decide)) j).trans ((congrFun (up2_row (by decide)) j).trans ((congrFun (up2_row (by decide)) j).trans b3)))) ?_
  refine a_puti rfl pfX9_103_9 rfl ?_
  refine a_ren (P := fun J => (∀ q, q ≠ 204 → J q = I q) ∧ J 204 4 = nI (n + 1) ∧ J 204 5 = nI j ∧ J 204 6 = nI (kd T e (bg T e j)) ∧ J 204 7 = nI (bg T e j) ∧ J 204 8 = vl T e (bg T e j)) ⟨fun q hq => ?_, ?_, ?_, ?_, ?_, up2_at⟩ (fun J hJ => ?_)
  · rw [up2_row hq, up2_row hq, up2_row hq, up2_row hq]
  · exact (up2_ne (Or.inr (by decide))).trans ((up2_ne (Or.inr (by decide))).trans ((up2_ne (Or.inr (by decide))).trans ((up2_ne (Or.inr (by decide))).trans a3)))
  · exact (up2_ne (Or.inr (by decide))).trans ((up2_ne (Or.inr (by decide))).trans ((up2_ne (Or.inr (by decide))).trans up2_at))
  · exact (up2_ne (Or.inr (by decide))).trans ((up2_ne (Or.inr (by decide))).trans up2_at)
  · exact (up2_ne (Or.inr (by decide))).trans up2_at
  obtain ⟨f, g4, g5, g6, g7, g8⟩ := hJ
  have hTJ : TkAs T e n J := ⟨a1, a2, g4, fun i hi => by
    rw [f 205 (by decide), f 206 (by decide), f 208 (by decide)]
    exact a4 i hi⟩
  have fin : ∀ q, q = wrF T e (bg T e j) → AW S m_X9_next 13 (fun v h' => v = none ∧ ∃ J w, h' = hp J L w w2 t ∧ Ats T e (bg T e j) w J ∧ ∀ q, q ≠ 204 → J q = I q) nX 0 0 103 [some (.ref 204)] [rv q, .ref 204] (hp J L w1 w2 t) := by
    intro q hq
    refine a_putw1 (q := q) rfl pfX9_106_9 ?_
    exact a_vret rfl rfl ⟨rfl, J, q, rfl, ⟨⟨n, j, hTJ, hjn, g5, rfl⟩, g6, g7, g8, hq⟩, f⟩
  refine a_l0 rfl rfl rfl ?_
  refine a_l0 rfl rfl rfl ?_
  refine a_getiv (v := nI (kd T e (bg T e j))) rfl gfX9_97_9 rfl (g6) ?_
  refine a_s rfl rfl ?_
  refine a_ic_ne rfl (fun c => ?_) (fun c => ?_)
  · refine a_s rfl rfl ?_
    exact fin 0 (if_neg (fun z => c (congrArg nI z.1))).symm
  have hk : kd T e (bg T e j) = 1 := nI_inj (a := kd T e (bg T e j)) (b := 1) (by have := kd_4 (T := T) (e := e) (b := bg T e j) rfl; omega) (by decide) c
  refine a_l0 rfl rfl rfl ?_
  refine a_getiv (v := vl T e (bg T e j)) rfl gfX9_103_9 rfl (g8) ?_
  rcases vl_w hk with ⟨v1, v2⟩ | ⟨v1, v2, v3⟩
  · refine a_if_lt rfl (fun _ => ?_) (fun c => absurd v1 c)
    refine a_s rfl rfl ?_
    exact fin 0 (if_neg (fun z => v2 z.2)).symm
  · refine a_if_lt rfl (fun c => absurd c v1) (fun _ => ?_)
    refine a_l0 rfl rfl rfl ?_
    refine a_getiv (v := nI (wd T e (bg T e j))) rfl gfX9_103_9 rfl (g8.trans v3) ?_
    refine a_gets rfl (inC4 (i := 0) rfl rfl) hw.al ?_
    refine a_lenc rfl hw.ar rfl ?_
    refine a_ic_ge rfl (fun c => absurd c (nI_ge (b := 27) v2 (by decide))) (fun _ => ?_)
    refine a_gets rfl (inC4 (i := 0) rfl rfl) hw.al ?_
    refine a_l0 rfl rfl rfl ?_
    refine a_getiv (v := nI (wd T e (bg T e j))) rfl gfX9_103_9 rfl (g8.trans v3) ?_
    refine a_aaldc rfl hw.ar rfl (inI_nI v2 (by decide)) ?_
    refine a_pop1 (st := [rv (100 + wd T e (bg T e j) + 1), .ref 204]) (by rw [nI_clamp (by omega)]; rfl) ?_
    refine a_goto rfl ?_
    exact fin _ (if_pos ⟨hk, v2⟩).symm
def SIs (T : Nat → Int32) (e n i la : Nat) (I : Nat → Nat → Int32) : Prop := n ≤ i ∧ i ≤ e ∧ I 204 4 = nI n ∧ (∀ j, j < n → bg T e j < e ∧ I 205 j = nI (kd T e (bg T e j)) ∧ I 206 j = nI (bg T e j)) ∧
  (((la = 4 ∨ la = 3) ∧ (∀ j, j < n → I 207 j = nI (en T e (bg T e j))) ∧ bg T e n = rn T e 4 i) ∨
   ∃ m, n = m + 1 ∧ (la = 1 ∨ la = 2) ∧ kd T e (bg T e m) = la ∧ (∀ j, j < m → I 207 j = nI (en T e (bg T e j))) ∧ I 207 m = nI i ∧ en T e (bg T e m) = rn T e la i)
theorem SIs.cl {T : Nat → Int32} {i la : Nat} (h : SIs T e n i la I) (hne : (la = 4 ∨ la = 3) ∨ ¬ isK T e la i = true) : (∀ j, j < n → I 207 j = nI (en T e (bg T e j))) ∧ bg T e n = rn T e 4 i := by
  obtain ⟨-, -, -, -, ⟨-, h2, h3⟩ | ⟨m, rfl, h2, h3, h4, h5, h6⟩⟩ := h
  · exact ⟨h2, h3⟩
  · have hne : ¬ isK T e la i = true := hne.resolve_left (by omega)
    have e1 : en T e (bg T e m) = i := h6.trans (rn_f (Bool.eq_false_iff.mpr hne))
    refine ⟨fun j hj => ?_, ?_⟩
    · by_cases c : j = m
      · rw [c, e1]
        exact h5
      · exact h4 j (by omega)
    · show rn T e 4 (en T e (bg T e m)) = _
      rw [e1]
theorem s_scan (hw : WdS S) (he : I 201 1 = nI e) (h4 : e ≤ 400) (hbt : BtT (I 202)) : Sp S m_X9_scan 19 0 0 [.ref 204, .ref 201] (hp I L w1 w2 t) (fun v h' => v = none ∧ ∃ J w, h' = hp J L w w2 t ∧ Ats (I 202) e (bg (I 202) e 0) w J ∧ Fts I J) nX := by
  refine Sp_of ok_X9_scan rfl rfl ?_
  show AW S m_X9_scan 19 _ _ 0 0 0 [some (.ref 204), some (.ref 201), none, none, none] [] (hp I L w1 w2 t)
  -- behind both loops
  have part2 : ∀ (n : Nat) (J : Nat → Nat → Int32), Fts I J → n ≤ e → J 204 4 = nI (n + 1) → ¬ bg (I 202) e n < e → (∀ j, j ≤ n → TkJs J e j (bg (I 202) e j)) → AW S m_X9_scan 19 (fun v h' => v = none ∧ ∃ J w, h' = hp J L w w2 t ∧ Ats (I 202) e (bg (I 202) e 0) w J ∧ Fts I J) nX 0 0 92 [some (.ref 204), some (.ref 201), none, none, none] [] (hp J L w1 w2 t) := by
    intro n J hF hne hs hend hall
    have hT2 : J 202 = I 202 := hF 202 (by omega)
    have he2 : J 201 1 = nI e := (congrFun (hF 201 (by omega)) 1).trans he
    refine a_s rfl rfl ?_
    refine a_s3 rfl rfl rfl rfl rfl rfl ?_
    refine a_inv (n := n + 1) (fun m ls h => ∃ q K, ls = [some (.ref 204), some (.ref 201), none, some (.int (nI q)), none] ∧ h = hp K L w1 w2 t ∧ q ≤ n + 1 ∧ m = n + 1 - q ∧ (∀ p, p ≠ 208 → K p = J p) ∧ ∀ j, j < q → K 208 j = vl (I 202) e (bg (I 202) e j)) ⟨0, J, rfl, rfl, Nat.zero_le _, rfl, fun _ _ => rfl, fun j hj => absurd hj (Nat.not_lt_zero _)⟩ ?_
    rintro m _ _ ⟨q, K, rfl, rfl, hq, hm, hK, hv5⟩ ih
    refine a_l3 rfl rfl rfl ?_
    refine a_l0 rfl rfl rfl ?_
    refine a_getiv (v := nI (n + 1)) rfl gfX9_24_9 rfl ((congrFun (hK 204 (by decide)) 4).trans hs) ?_
    refine a_ic_ge rfl (fun c => ?_) (fun c => ?_)
    · have hge := nI_ge_of c (by omega) (by omega)
      obtain rfl : q = n + 1 := by omega
      refine a_l0 rfl rfl rfl ?_
      refine a_s rfl rfl ?_
      refine a_puti rfl pfX9_52_9 rfl ?_
      refine a_l0 rfl rfl rfl ?_
      have hTA : TkAs (I 202) e n (up2 K 204 5 (-1)) := by
        refine ⟨by omega, hend, (up2_ne (Or.inr (by decide))).trans ((congrFun (hK 204 (by decide)) 4).trans hs), fun j hj => ?_⟩
        obtain ⟨z1, z2, z3⟩ := hall j hj
        rw [hT2] at z1
        rw [up2_row (by decide), up2_row (by decide), up2_row (by decide), hK 205 (by decide), hK 206 (by decide)]
        exact ⟨z1, z2, hv5 j (by omega)⟩
      refine a_gV rfl lX9_55 mo_X9_next (s_next (i := 0) (j := 0) hw hTA (by rw [up2_at]; rfl) rfl (by omega)) rfl rfl rfl ⟨9, _, rfl, rfl, rfl⟩ rfl (fun v' h' hv => ?_)
      obtain ⟨rfl, J2, w, rfl, hA, hf⟩ := hv
      refine a_vret rfl rfl ⟨rfl, J2, w, rfl, hA, fun p hp     => ?_⟩
      have p1 : p ≠ 204 := by omega
      have p2 : p ≠ 208 := by omega
      rw [hf p p1, up2_row p1, hK p p2]
      exact hF p hp
    · have hqn : q < n + 1 := nI_lt_of c (by omega) (by omega)
      refine a_l0 rfl rfl rfl ?_
      refine a_getq rfl gfX9_21_9 rfl (rfl) ?_
      refine a_l3 rfl rfl rfl ?_
      refine a_l0 rfl rfl rfl ?_
      refine a_l1 rfl rfl rfl ?_
      refine a_l3 rfl rfl rfl ?_
      have hKT : K 202 = I 202 := (hK 202 (by decide)).trans hT2
      have hTq : TkJs K e q (bg (I 202) e q) := by
        have := hall q (by omega)
        unfold TkJs at this ⊢
        rw [hK 205 (by decide), hK 206 (by decide), hK 207 (by decide), hK 202 (by decide)]
        exact this
      refine a_eV1 rfl lX9_48 mo_X9_valueOf (s_valueOf (b := bg (I 202) e q) hw ((congrFun (hK 201 (by decide)) 1).trans he2) h4 (by rw [hKT]; exact hbt) (by omega) (bg_le q) (by rw [hKT]; exact sk_kd (bg_sk q)) hTq) rfl rfl rfl ⟨9, _, rfl, rfl, rfl⟩ rfl ?_
      refine a_top (y := vl (I 202) e (bg (I 202) e q)) (by rw [hKT]) ?_
      refine a_eSN0 rfl lX9_44 mo_X11_setAt (sp_X11_setAt rfl) rfl rfl rfl rfl ?_
      rw [setF_nI (by omega) (by decide)]
      refine a_iv3 (y := nI (q + 1)) rfl rfl rfl ((nI_succ q).symm) ?_
      refine a_goto rfl ?_
      refine ih (n + 1 - (q + 1)) _ _ (by omega) ⟨q + 1, up2 K 208 q (vl (I 202) e (bg (I 202) e q)), rfl, rfl, by omega, rfl, fun p hp     => (up2_row hp).trans (hK p hp), fun j hj => ?_⟩
      by_cases cj : j = q
      · rw [cj]
        exact up2_at
      · exact (up2_ne (Or.inr cj)).trans (hv5 j (by omega))
  refine a_l0 rfl rfl rfl ?_
  refine a_s rfl rfl ?_
  refine a_puti rfl pfX9_24_9 rfl ?_
  refine a_s rfl rfl ?_
  refine a_s2 rfl rfl rfl rfl rfl rfl ?_
  refine a_s rfl rfl ?_
  refine a_s3 rfl rfl rfl rfl rfl rfl ?_
  refine a_inv (n := e) (fun m ls h => ∃ n i la J, ls = [some (.ref 204), some (.ref 201), some (.int (nI la)), some (.int (nI i)), none] ∧ h = hp J L w1 w2 t ∧ m = e - i ∧ Fts I J ∧ SIs (I 202) e n i la J) ⟨0, 0, 4, _, rfl, rfl, rfl, Fts.up Fts.rf (by omega), Nat.le_refl _, Nat.zero_le _, up2_at, fun j hj => absurd hj (Nat.not_lt_zero _), Or.inl ⟨Or.inl rfl, fun j hj => absurd hj (Nat.not_lt_zero _), rfl⟩⟩ ?_
  rintro m _ _ ⟨n, i, la, J, rfl, rfl, hm, hF, hSI⟩ ih
  have hT2 : J 202 = I 202 := hF 202 (by omega)
  have he2 : J 201 1 = nI e := (congrFun (hF 201 (by omega)) 1).trans he
  obtain ⟨s1, s2, s3, s4, s5⟩ := id hSI
  have hla : la < 5 := by
    rcases s5 with ⟨z | z, -⟩ | ⟨_, -, z | z, -⟩ <;> omega
  refine a_l3 rfl rfl rfl ?_
  refine a_l1 rfl rfl rfl ?_
  refine a_getiv (v := nI e) rfl gfX9_28_7 rfl (he2) ?_
  refine a_ic_ge rfl (fun c => ?_) (fun c => ?_)
  · have hge := nI_ge_of c (by omega) (by omega)
    obtain rfl : i = e := by omega
    obtain ⟨k1, k2⟩ := SIs.cl hSI (Or.inr fun z => absurd (isK_lt z) (Nat.lt_irrefl _))
    rw [rn_e (Nat.lt_irrefl _)] at k2
    refine a_l0 rfl rfl rfl ?_
    refine a_s rfl rfl ?_
    refine a_l1 rfl rfl rfl ?_
    refine a_getiv (v := nI i) rfl gfX9_28_7 rfl (he2) ?_
    refine a_eV0 rfl lX9_40 mo_X9_open (s_open s3 (by omega)) rfl rfl rfl ⟨9, _, rfl, rfl, rfl⟩ rfl ?_
    refine a_less (part2 n (opHs J n 0 (nI i)) (Fts.up (Fts.up (Fts.up (Fts.up hF (by omega)) (by omega)) (by omega)) (by omega)) (by omega) up2_at (by rw [k2]; exact Nat.lt_irrefl _) (fun j hj => ?_)) ⟨rfl, rfl, trivial⟩
    have r2 : ∀ q, opHs J n 0 (nI i) 205 q = up2 J 205 n 0 205 q := fun q => by
      unfold opHs
      rw [up2_row (by decide), up2_row (by decide), up2_row (by decide)]
    have r3 : ∀ q, opHs J n 0 (nI i) 206 q = up2 J 206 n (nI i) 206 q := fun q => by
      unfold opHs
      rw [up2_row (by decide), up2_row (by decide)]
      by_cases cq : q = n
      · rw [cq, up2_at, up2_at]
      · rw [up2_ne (Or.inr cq), up2_ne (Or.inr cq), up2_ne (Or.inr cq)]
    have r4 : ∀ q, opHs J n 0 (nI i) 207 q = up2 J 207 n (nI i) 207 q := fun q => by
      unfold opHs
      rw [up2_row (by decide)]
      by_cases cq : q = n
      · rw [cq, up2_at, up2_at]
      · rw [up2_ne (Or.inr cq), up2_ne (Or.inr cq), up2_ne (Or.inr cq), up2_ne (Or.inr cq)]
    have r0 : opHs J n 0 (nI i) 202 = I 202 := by
      unfold opHs
      rw [up2_row (by decide), up2_row (by decide), up2_row (by decide), up2_row (by decide)]
      exact hT2
    unfold TkJs
    rw [r0, r2, r3, r4]
    by_cases cj : j = n
    · rw [cj, up2_at, up2_at, up2_at, k2, kd_ge (Nat.lt_irrefl _), en_0 (Nat.lt_irrefl _)]
      exact ⟨nI_0.symm, rfl, rfl⟩
    · obtain ⟨z1, z2, z3⟩ := s4 j (by omega)
      rw [up2_ne (Or.inr cj), up2_ne (Or.inr cj), up2_ne (Or.inr cj)]
      exact ⟨z2, z3, k1 j (by omega)⟩
  have hie : i < e := nI_lt_of c (by omega) (by omega)
  refine a_l1 rfl rfl rfl ?_
  refine a_l3 rfl rfl rfl ?_
  refine a_eV1 rfl lX9_33 mo_X7_byteAt (f_byteAt he2 h4 (by omega)) rfl rfl rfl ⟨7, _, rfl, rfl, rfl⟩ rfl ?_
  refine a_top (y := I 202 i &&& 255) ((if_pos hie).trans (by rw [hT2])) ?_
  refine a_eS1 rfl lX9_37 mo_X9_kindOf f_kindOf rfl rfl rfl rfl ?_
  obtain ⟨x, hx, ex⟩ := hbt i (by omega)
  refine a_top (y := nI (kcF (I 202 i))) (by rw [ex, bt_kc x hx]) ?_
  refine a_s4 rfl rfl rfl rfl rfl rfl ?_
  have hkc := kc_cases (I 202 i)
  generalize hk0 : kcF (I 202 i) = kc at hkc
  have isK_of : ∀ k, isK (I 202) e k i = true ↔ kc = k := fun k => ⟨fun z => hk0.symm.trans (isK_kc z), fun z => isK_t hie (hk0.trans z)⟩
  -- the loop goes on
  have on : ∀ (n' : Nat) (K : Nat → Nat → Int32), Fts I K → SIs (I 202) e n' (i + 1) kc K → AW S m_X9_scan 19 (fun v h' => v = none ∧ ∃ J w, h' = hp J L w w2 t ∧ Ats (I 202) e (bg (I 202) e 0) w J ∧ Fts I J) nX 0 0 74 [some (.ref 204), some (.ref 201), some (.int (nI la)), some (.int (nI i)), some (.int (nI kc))] [] (hp K L w1 w2 t) := by
    intro n' K hFK hSK
    refine a_l4 rfl rfl rfl ?_
    refine a_s2 rfl rfl rfl rfl rfl rfl ?_
    refine a_iv3 (y := nI (i + 1)) rfl rfl rfl ((nI_succ i).symm) ?_
    refine a_goto rfl ?_
    have lt : e - (i + 1) < m := by rw [hm]; exact Nat.sub_lt_sub_left hie (Nat.lt_succ_self i)
    exact a_less (ih (e - (i + 1)) [some (.ref 204), some (.ref 201), some (.int (nI kc)), some (.int (nI (i + 1))), none] (hp K L w1 w2 t) lt ⟨n', i + 1, kc, K, rfl, rfl, rfl, hFK, hSK⟩) ⟨rfl, rfl, rfl, rfl, trivial⟩
  -- where the latest ends
  have k52 : ∀ (m : Nat) (K : Nat → Nat → Int32), kc ≠ 4 → m < 401 → K 204 4 = nI (m + 1) → Fts I K → SIs (I 202) e (m + 1) (i + 1) kc (up2 K 207 m (nI (i + 1))) → AW S m_X9_scan 19 (fun v h' => v = none ∧ ∃ J w, h' = hp J L w w2 t ∧ Ats (I 202) e (bg (I 202) e 0) w J ∧ Fts I J) nX 0 0 52 [some (.ref 204), some (.ref 201), some (.int (nI la)), some (.int (nI i)), some (.int (nI kc))] [] (hp K L w1 w2 t) := by
    intro m K h4 hm4 hK4 hFK hSK
    refine a_l4 rfl rfl rfl ?_
    refine a_s rfl rfl ?_
    refine a_ic_eq rfl (fun c => absurd (nI_inj (b := 4) (by omega) (by decide) c) h4) (fun _ => ?_)
    refine a_l0 rfl rfl rfl ?_
    refine a_getq rfl gfX9_18_9 rfl (rfl) ?_
    refine a_l0 rfl rfl rfl ?_
    refine a_getiv (v := nI (m + 1)) rfl gfX9_24_9 rfl (hK4) ?_
    refine a_s rfl rfl ?_
    refine a_s rfl rfl ?_
    refine a_top (y := nI m) (nI_dec m) ?_
    refine a_l3 rfl rfl rfl ?_
    refine a_s rfl rfl ?_
    refine a_s rfl rfl ?_
    refine a_top (y := nI (i + 1)) ((nI_succ i).symm) ?_
    refine a_eSN0 rfl lX9_44 mo_X11_setAt (sp_X11_setAt rfl) rfl rfl rfl rfl ?_
    rw [setF_nI hm4 (by decide)]
    exact on _ _ (Fts.up hFK (by omega)) hSK
  -- a new one begins here
  have k45 : kc ≠ 4 → ((la = 4 ∨ la = 3) ∨ kc ≠ la) → AW S m_X9_scan 19 (fun v h' => v = none ∧ ∃ J w, h' = hp J L w w2 t ∧ Ats (I 202) e (bg (I 202) e 0) w J ∧ Fts I J) nX 0 0 45 [some (.ref 204), some (.ref 201), some (.int (nI la)), some (.int (nI i)), some (.int (nI kc))] [] (hp J L w1 w2 t) := by
    intro n4 hne
    obtain ⟨k1, k2⟩ := SIs.cl hSI (hne.imp id fun z y => z ((isK_of la).mp y))
    have kb : bg (I 202) e n = i := k2.trans (rn_f (Bool.eq_false_iff.mpr fun z => n4 ((isK_of 4).mp z)))
    have kk : kd (I 202) e i = kc := (kd_lt hie).trans hk0
    refine a_l0 rfl rfl rfl ?_
    refine a_l4 rfl rfl rfl ?_
    refine a_l3 rfl rfl rfl ?_
    refine a_eV0 rfl lX9_40 mo_X9_open (s_open s3 (by omega)) rfl rfl rfl ⟨9, _, rfl, rfl, rfl⟩ rfl ?_
    refine k52 n _ n4 (by omega) up2_at (Fts.up (Fts.up (Fts.up (Fts.up hF (by omega)) (by omega)) (by omega)) (by omega)) ?_
    have r2 : ∀ q, up2 (opHs J n (nI kc) (nI i)) 207 n (nI (i + 1)) 205 q = up2 J 205 n (nI kc) 205 q := fun q => by
      unfold opHs
      rw [up2_row (by decide), up2_row (by decide), up2_row (by decide), up2_row (by decide)]
    have r3 : ∀ q, up2 (opHs J n (nI kc) (nI i)) 207 n (nI (i + 1)) 206 q = up2 J 206 n (nI i) 206 q := fun q => by
      unfold opHs
      rw [up2_row (by decide), up2_row (by decide), up2_row (by decide)]
      by_cases cq : q = n
      · rw [cq, up2_at, up2_at]
      · rw [up2_ne (Or.inr cq), up2_ne (Or.inr cq), up2_ne (Or.inr cq)]
    have r4 : ∀ q, q ≠ n → up2 (opHs J n (nI kc) (nI i)) 207 n (nI (i + 1)) 207 q = J 207 q := fun q hq => by
      rw [up2_ne (Or.inr hq)]
      unfold opHs
      rw [up2_row (by decide), up2_ne (Or.inr hq), up2_row (by decide), up2_row (by decide)]
    have s4' : ∀ j, j < n + 1 → bg (I 202) e j < e ∧ up2 (opHs J n (nI kc) (nI i)) 207 n (nI (i + 1)) 205 j = nI (kd (I 202) e (bg (I 202) e j)) ∧ up2 (opHs J n (nI kc) (nI i)) 207 n (nI (i + 1)) 206 j = nI (bg (I 202) e j) := fun j hj => by
      rw [r2, r3]
      by_cases cj : j = n
      · rw [cj, kb, kk, up2_at, up2_at]
        exact ⟨hie, rfl, rfl⟩
      · rw [up2_ne (Or.inr cj), up2_ne (Or.inr cj)]
        exact s4 j (by omega)
    refine ⟨by omega, hie, (congrFun (up2_row (by decide)) 4).trans up2_at, s4', ?_⟩
    by_cases c3 : kc = 3
    · refine Or.inl ⟨Or.inr c3, fun j hj => ?_, ?_⟩
      · by_cases cj : j = n
        · rw [cj, up2_at, kb, en_3 (kk.trans c3)]
        · rw [r4 j cj]
          exact k1 j (by omega)
      · show rn (I 202) e 4 (en (I 202) e (bg (I 202) e n)) = _
        rw [kb, en_3 (kk.trans c3)]
    · refine Or.inr ⟨n, rfl, by omega, by rw [kb, kk], fun j hj => ?_, up2_at, ?_⟩
      · rw [r4 j (by omega)]
        exact k1 j hj
      · rw [kb]
        rcases hkc with z | z | z | z
        · rw [en_1 (kk.trans z), z, rn_t ((isK_of 1).mpr z)]
        · rw [en_2 (kk.trans z), z, rn_t ((isK_of 2).mpr z)]
        · exact absurd z c3
        · exact absurd z n4
  refine a_l4 rfl rfl rfl ?_
  refine a_s rfl rfl ?_
  refine a_ic_eq rfl (fun c => ?_) (fun c3 => ?_)
  · have c := nI_inj (b := 3) (by omega) (by decide) c
    exact k45 (by omega) (by omega)
  have c3 : kc ≠ 3 := fun z => c3 (congrArg nI z)
  refine a_l4 rfl rfl rfl ?_
  refine a_s rfl rfl ?_
  refine a_ic_eq rfl (fun c => ?_) (fun c4 => ?_)
  · have c := nI_inj (b := 4) (by omega) (by decide) c
    obtain ⟨k1, k2⟩ := SIs.cl hSI (by
      rcases s5 with ⟨z, -⟩ | ⟨_, -, z, -⟩
      · exact Or.inl z
      · exact Or.inr fun y => by have := (isK_of la).mp y; omega)
    refine a_l4 rfl rfl rfl ?_
    refine a_s rfl rfl ?_
    refine a_ic_eq rfl (fun _ => ?_) (fun z => absurd (congrArg nI c) z)
    exact on n J hF ⟨by omega, hie, s3, s4, Or.inl ⟨Or.inl c, k1, k2.trans (rn_t ((isK_of 4).mpr c))⟩⟩
  have c4 : kc ≠ 4 := fun z => c4 (congrArg nI z)
  refine a_l4 rfl rfl rfl ?_
  refine a_l2 rfl rfl rfl ?_
  refine a_ic_eq rfl (fun c => ?_) (fun cl => ?_)
  · have c := nI_inj (by omega) (by omega) c
    rcases s5 with ⟨z, -⟩ | ⟨m, rfl, h2, h3, h4', h5, h6⟩
    · exfalso
      omega
    · refine k52 m J c4 (by omega) s3 hF ⟨by omega, hie, (congrFun (up2_row (by decide)) 4).trans s3, fun j hj => ?_, Or.inr ⟨m, rfl, by omega, h3.trans c.symm, fun j hj => ?_, up2_at, ?_⟩⟩
      · rw [up2_row (by decide), up2_row (by decide)]
        exact s4 j hj
      · rw [up2_ne (Or.inr (by omega))]
        exact h4' j hj
      · rw [h6, c, rn_t ((isK_of la).mpr c)]
  · exact k45 c4 (Or.inr fun z => cl (congrArg nI z))
theorem Ats.wk {w : Nat} (h : Ats T e b w I) : WK w := by
  rw [Ats.wo h]
  exact wr_wk
theorem sg_next (hw : WdS S) (h : Ats T e b w1 I) : Sp S m_X9_next 13 0 0 [.ref 204] (hp I L w1 w2 t) (fun v h' => v = none ∧ ∃ J w, h' = hp J L w w2 t ∧ Ats T e (nx T e b) w J ∧ ∀ q, q ≠ 204 → J q = I q) nX := by
  obtain ⟨⟨n, j, hT, hj, h5, rfl⟩, -⟩ := h
  have hn := hT.1
  by_cases c : j + 1 ≤ n
  · exact s_next (i := j + 1) (j := j + 1) hw hT (by rw [h5, ← nI_succ]) (if_pos c).symm (by omega)
  · obtain rfl : j = n := by omega
    have e1 : nx T e (bg T e j) = bg T e j := nx_e hT.2.1
    rw [e1]
    exact s_next (i := j + 1) (j := j) hw hT (by rw [h5, ← nI_succ]) (if_neg c).symm (by omega)
theorem s_isEnd (h : Ats T e b w1 I) : SpE S m_X9_isEnd 12 [.ref 204] (hp I L w1 w2 t) (some (.int (bI (decide (¬ b < e))))) (hp I L w1 w2 t) := by
  refine SpE_of ok_X9_isEnd rfl rfl ?_
  show AW S m_X9_isEnd 12 _ _ 0 0 0 [some (.ref 204)] [] (hp I L w1 w2 t)
  refine a_l0 rfl rfl rfl ?_
  refine a_getiv (v := nI (kd T e b)) rfl gfX9_97_9 rfl (Ats.ki h) ?_
  have k4 := kd_4 (T := T) (e := e) (b := b) rfl
  refine a_if_ne rfl (fun c => ?_) (fun c => ?_)
  · refine a_s rfl rfl ?_
    refine a_zret rfl rfl rfl ⟨?_, rfl⟩
    rw [show decide (¬ b < e) = false from decide_eq_false fun z => c (by rw [kd_ge z]; rfl)]
    rfl
  · refine a_s rfl rfl ?_
    refine a_goto rfl ?_
    refine a_zret rfl rfl rfl ⟨?_, rfl⟩
    rw [show decide (¬ b < e) = true from decide_eq_true (kd_0 ((nI_eq0 (by omega)).mp c))]
    rfl
theorem s_isSign (h : Ats T e b w1 I) {x : Int32} : SpE S m_X9_isSign 12 [.ref 204, .int x] (hp I L w1 w2 t) (some (.int (bI (sg T e b x)))) (hp I L w1 w2 t) := by
  refine SpE_of ok_X9_isSign rfl rfl ?_
  show AW S m_X9_isSign 12 _ _ 0 0 0 [some (.ref 204), some (.int x)] [] (hp I L w1 w2 t)
  have k4 := kd_4 (T := T) (e := e) (b := b) rfl
  refine a_l0 rfl rfl rfl ?_
  refine a_getiv (v := nI (kd T e b)) rfl gfX9_97_9 rfl (Ats.ki h) ?_
  refine a_s rfl rfl ?_
  refine a_ic_ne rfl (fun c => ?_) (fun c => ?_)
  · refine a_s rfl rfl ?_
    refine a_zret rfl rfl rfl ⟨?_, rfl⟩
    rw [show sg T e b x = false from decide_eq_false fun z => c (congrArg nI z.1)]
    rfl
  have c := nI_inj (b := 3) (by omega) (by decide) c
  refine a_l0 rfl rfl rfl ?_
  refine a_getiv (v := vl T e b) rfl gfX9_103_9 rfl (Ats.va h) ?_
  refine a_l1 rfl rfl rfl ?_
  refine a_ic_ne rfl (fun c2 => ?_) (fun c2 => ?_)
  · refine a_s rfl rfl ?_
    refine a_zret rfl rfl rfl ⟨?_, rfl⟩
    rw [show sg T e b x = false from decide_eq_false fun z => c2 z.2]
    rfl
  · refine a_s rfl rfl ?_
    refine a_goto rfl ?_
    refine a_zret rfl rfl rfl ⟨?_, rfl⟩
    rw [show sg T e b x = true from decide_eq_true ⟨c, c2⟩]
    rfl
def Tks (T : Nat → Int32) (e b : Nat) (z : Bool) (I : Nat → Nat → Int32) (L : Nat → Nat → Int64) (w2 t : Nat) : Option Value → aH → Prop := fun v h' => v = some (.int (bI z)) ∧ ∃ J w, h' = hp J L w w2 t ∧ Ats T e (if z = true then nx T e b else b) w J ∧ ∀ q, q ≠ 204 → J q = I q
theorem s_takeSign (hw : WdS S) (h : Ats T e b w1 I) {x : Int32} : Sp S m_X9_takeSign 14 0 0 [.ref 204, .int x] (hp I L w1 w2 t) (Tks T e b (sg T e b x) I L w2 t) nX := by
  refine Sp_of ok_X9_takeSign rfl rfl ?_
  show AW S m_X9_takeSign 14 _ _ 0 0 0 [some (.ref 204), some (.int x), none] [] (hp I L w1 w2 t)
  refine a_l0 rfl rfl rfl ?_
  refine a_l1 rfl rfl rfl ?_
  refine a_eV1 rfl lX9_110 mo_X9_isSign (s_isSign h) rfl rfl rfl ⟨9, _, rfl, rfl, rfl⟩ rfl ?_
  refine a_s2 rfl rfl rfl rfl rfl rfl ?_
  refine a_l2 rfl rfl rfl ?_
  cases c : sg T e b x with
  | false =>
    refine a_if_eq rfl (fun _ => ?_) (fun z => absurd rfl z)
    refine a_l2 rfl rfl rfl ?_
    exact a_zret rfl rfl rfl ⟨rfl, I, w1, rfl, h, fun _ _ => rfl⟩
  | true =>
    refine a_if_eq rfl (fun z => absurd z (by decide)) (fun _ => ?_)
    refine a_l0 rfl rfl rfl ?_
    refine a_gV rfl lX9_55 mo_X9_next (sg_next hw h) rfl rfl rfl ⟨9, _, rfl, rfl, rfl⟩ rfl (fun v' h' hv => ?_)
    obtain ⟨rfl, J, w, rfl, hA, hf⟩ := hv
    refine a_l2 rfl rfl rfl ?_
    exact a_zret rfl rfl rfl ⟨rfl, J, w, rfl, hA, hf⟩
theorem s_takeWord (hw : WdS S) (h : Ats T e b w1 I) {k : Nat} (hk : k < 27) : Sp S m_X9_takeWord 14 0 0 [.ref 204, .ref (100 + k)] (hp I L w1 w2 t) (Tks T e b (isWd T e b k) I L w2 t) nX := by
  refine Sp_of ok_X9_takeWord rfl rfl ?_
  show AW S m_X9_takeWord 14 _ _ 0 0 0 [some (.ref 204), some (.ref (100 + k)), none] [] (hp I L w1 w2 t)
  refine a_l0 rfl rfl rfl ?_
  refine a_getr rfl gfX9_106_9 rfl ?_
  refine a_pop1 (show _ = rv w1 :: _ from rfl) ?_
  refine a_l1 rfl rfl rfl ?_
  refine a_acmp_ne (rx := w1) (ry := 100 + k + 1) rfl ((Ats.wk h).ac hw) (WK.ck hw hk) (fun c => ?_) (fun c => ?_)
  · have c3 : isWd T e b k = false := Bool.eq_false_iff.mpr fun z => c ((Ats.wo h).trans ((wr_is hk).mpr z))
    refine a_s rfl rfl ?_
    refine a_s2 rfl rfl rfl rfl rfl rfl ?_
    refine a_l2 rfl rfl rfl ?_
    refine a_if_eq rfl (fun _ => ?_) (fun z => absurd rfl z)
    refine a_l2 rfl rfl rfl ?_
    exact a_zret rfl rfl rfl ⟨by rw [c3]; rfl, I, w1, rfl, by rw [c3]; exact h, fun _ _ => rfl⟩
  · have c3 : isWd T e b k = true := (wr_is hk).mp ((Ats.wo h).symm.trans c)
    refine a_s rfl rfl ?_
    refine a_goto rfl ?_
    refine a_s2 rfl rfl rfl rfl rfl rfl ?_
    refine a_l2 rfl rfl rfl ?_
    refine a_if_eq rfl (fun z => absurd z (by decide)) (fun _ => ?_)
    refine a_l0 rfl rfl rfl ?_
    refine a_gV rfl lX9_55 mo_X9_next (sg_next hw h) rfl rfl rfl ⟨9, _, rfl, rfl, rfl⟩ rfl (fun v' h' hv => ?_)
    obtain ⟨rfl, J, w, rfl, hA, hf⟩ := hv
    refine a_l2 rfl rfl rfl ?_
    exact a_zret rfl rfl rfl ⟨by rw [c3]; rfl, J, w, rfl, by rw [c3]; exact hA, hf⟩
theorem s_takeNumber (hw : WdS S) (h : Ats T e b w1 I) {lo hi : Int32} (h0 : 0 ≤ lo) : Sp S m_X9_takeNumber 14 0 0 [.ref 204, .int lo, .int hi] (hp I L w1 w2 t) (fun v h' => v = some (.int (nm T e b lo hi)) ∧ ∃ J w, h' = hp J L w w2 t ∧ Ats T e (if nm T e b lo hi = -1 then b else nx T e b) w J ∧ ∀ q, q ≠ 204 → J q = I q) nX := by
  refine Sp_of ok_X9_takeNumber rfl rfl ?_
  show AW S m_X9_takeNumber 14 _ _ 0 0 0 [some (.ref 204), some (.int lo), some (.int hi), none] [] (hp I L w1 w2 t)
  have k4 := kd_4 (T := T) (e := e) (b := b) rfl
  have no : nm T e b lo hi = -1 → AW S m_X9_takeNumber 14 (fun v h' => v = some (.int (nm T e b lo hi)) ∧ ∃ J w, h' = hp J L w w2 t ∧ Ats T e (if nm T e b lo hi = -1 then b else nx T e b) w J ∧ ∀ q, q ≠ 204 → J q = I q) nX 0 0 23 [some (.ref 204), some (.int lo), some (.int hi), some (.int (vl T e b))] [] (hp I L w1 w2 t) := by
    intro hn
    refine a_s rfl rfl ?_
    exact a_iret rfl rfl ⟨by rw [hn], I, w1, rfl, by rw [if_pos hn]; exact h, fun _ _ => rfl⟩
  refine a_l0 rfl rfl rfl ?_
  refine a_getiv (v := vl T e b) rfl gfX9_103_9 rfl (Ats.va h) ?_
  refine a_s3 rfl rfl rfl rfl rfl rfl ?_
  refine a_l0 rfl rfl rfl ?_
  refine a_getiv (v := nI (kd T e b)) rfl gfX9_97_9 rfl (Ats.ki h) ?_
  refine a_s rfl rfl ?_
  refine a_ic_ne rfl (fun c => no (if_neg fun z => c (congrArg nI z.1))) (fun c => ?_)
  have c := nI_inj (b := 2) (by omega) (by decide) c
  refine a_l3 rfl rfl rfl ?_
  refine a_l1 rfl rfl rfl ?_
  refine a_ic_lt rfl (fun c2 => no (if_neg fun z => absurd c2 (Int32.not_lt.mpr z.2.1))) (fun c2 => ?_)
  refine a_l3 rfl rfl rfl ?_
  refine a_l2 rfl rfl rfl ?_
  refine a_ic_le rfl (fun c3 => ?_) (fun c3 => no (if_neg fun z => c3 z.2.2))
  have c2 := Int32.not_lt.mp c2
  have hn : nm T e b lo hi = vl T e b := if_pos ⟨c, c2, c3⟩
  have hne : ¬ nm T e b lo hi = -1 := fun z => by
    rw [hn] at z
    rw [z] at c2
    exact absurd (Int32.le_trans h0 c2) (by decide)
  refine a_l0 rfl rfl rfl ?_
  refine a_gV rfl lX9_55 mo_X9_next (sg_next hw h) rfl rfl rfl ⟨9, _, rfl, rfl, rfl⟩ rfl (fun v' h' hv => ?_)
  obtain ⟨rfl, J, w, rfl, hA, hf⟩ := hv
  refine a_l3 rfl rfl rfl ?_
  exact a_iret rfl rfl ⟨by rw [hn], J, w, rfl, by rw [if_neg hne]; exact hA, hf⟩
end T79l
end
section
/-! ===== a street as a row of numbers; what a text of the street says ===== -/
section P79m
def ud (W : Nat → Int32) (k : Nat) (v : Int32) : Nat → Int32 := fun j => if j = k then v else W j
theorem ud_at {W : Nat → Int32} {k : Nat} {v : Int32} : ud W k v k = v := if_pos rfl
theorem ud_ne {W : Nat → Int32} {k j : Nat} {v : Int32} (h : j ≠ k) : ud W k v j = W j := if_neg h
theorem up2_ud {I : Nat → Nat → Int32} {p k : Nat} {v : Int32} : up2 I p k v p = ud (I p) k v := by
  funext j
  by_cases c : j = k
  · rw [c, up2_at, ud_at]
  · rw [up2_ne (Or.inr c), ud_ne c]
/-- a street's own fields: where they lie in the row -/
def flds : List (Nat × Nat) := [(0, 0), (3, 1), (16, 2), (10, 4), (11, 5), (12, 6), (13, 7), (14, 8), (15, 10)]
theorem flds_in : ∀ x ∈ flds, x.2 < 11 ∧ ∀ y ∈ flds, x.1 = y.1 → x.2 = y.2 := by decide
theorem flds_ni : ∀ x ∈ flds, ∀ y ∈ flds, x.2 = y.2 → x.1 = y.1 := by decide
/-- the street at a is the one that the row tells -/
def Sd (I : Nat → Nat → Int32) (a : Nat) (W : Nat → Int32) : Prop := (∀ x ∈ flds, I a x.1 = W x.2) ∧ (∀ p, p < 6 → I (a + 1) p = W (11 + 2 * p) ∧ I (a + 2) p = W (11 + 2 * p + 1)) ∧ ∀ d, d < 12 → ∀ k, k < 6 → I (a + 3 + k) d = W (23 + 6 * d + k)
theorem Sd.fd {I : Nat → Nat → Int32} {a : Nat} {W : Nat → Int32} (h : Sd I a W) {f g : Nat} (hm : (f, g) ∈ flds) : I a f = W g := h.1 (f, g) hm
theorem Sd.eq {I J : Nat → Nat → Int32} {a : Nat} {W : Nat → Int32} (h : Sd I a W) (f : ∀ q, a ≤ q → q ≤ a + 8 → J q = I q) : Sd J a W := by
  obtain ⟨h1, h2, h3⟩ := h
  refine ⟨fun x hx => ?_, fun p hp => ?_, fun d hd k hk => ?_⟩
  · rw [f a (by omega) (by omega)]
    exact h1 x hx
  · rw [f (a + 1) (by omega) (by omega), f (a + 2) (by omega) (by omega)]
    exact h2 p hp
  · rw [f (a + 3 + k) (by omega) (by omega)]
    exact h3 d hd k hk
theorem Sd.pu {I : Nat → Nat → Int32} {a f g : Nat} {W : Nat → Int32} {v : Int32} (h : Sd I a W) (hm : (f, g) ∈ flds) : Sd (up2 I a f v) a (ud W g v) := by
  obtain ⟨h1, h2, h3⟩ := h
  have hg : g < 11 := (flds_in _ hm).1
  refine ⟨fun x hx => ?_, fun p hp => ?_, fun d hd k hk => ?_⟩
  · by_cases c : x.1 = f
    · rw [c, up2_at, show x.2 = g from (flds_in x hx).2 _ hm c, ud_at]
    · rw [up2_ne (Or.inr c), ud_ne (fun z => c (flds_ni x hx _ hm z))]
      exact h1 x hx
  · rw [up2_row (by omega), up2_row (by omega), ud_ne (by omega), ud_ne (by omega)]
    exact h2 p hp
  · rw [up2_row (by omega), ud_ne (by omega)]
    exact h3 d hd k hk
theorem Sd.kb {I : Nat → Nat → Int32} {a p : Nat} {W : Nat → Int32} {v : Int32} (h : Sd I a W) (hp : p < 6) : Sd (up2 I (a + 1) p v) a (ud W (11 + 2 * p) v) := by
  obtain ⟨h1, h2, h3⟩ := h
  refine ⟨fun x hx => ?_, fun q hq => ?_, fun d hd k hk => ?_⟩
  · have := (flds_in x hx).1
    rw [up2_row (by omega), ud_ne (by omega)]
    exact h1 x hx
  · rw [up2_row (p := a + 1) (q := a + 2) (by omega), ud_ne (j := 11 + 2 * q + 1) (by omega)]
    refine ⟨?_, (h2 q hq).2⟩
    by_cases c : q = p
    · rw [c, up2_at, ud_at]
    · rw [up2_ne (Or.inr c), ud_ne (by omega)]
      exact (h2 q hq).1
  · rw [up2_row (by omega), ud_ne (by omega)]
    exact h3 d hd k hk
theorem Sd.fr {I : Nat → Nat → Int32} {a p : Nat} {W : Nat → Int32} {v : Int32} (h : Sd I a W) (hp : p < 6) : Sd (up2 I (a + 2) p v) a (ud W (11 + 2 * p + 1) v) := by
  obtain ⟨h1, h2, h3⟩ := h
  refine ⟨fun x hx => ?_, fun q hq => ?_, fun d hd k hk => ?_⟩
  · have := (flds_in x hx).1
    rw [up2_row (by omega), ud_ne (by omega)]
    exact h1 x hx
  · rw [up2_row (p := a + 2) (q := a + 1) (by omega), ud_ne (j := 11 + 2 * q) (by omega)]
    refine ⟨(h2 q hq).1, ?_⟩
    by_cases c : q = p
    · rw [c, up2_at, ud_at]
    · rw [up2_ne (Or.inr c), ud_ne (by omega)]
      exact (h2 q hq).2
  · rw [up2_row (by omega), ud_ne (by omega)]
    exact h3 d hd k hk
theorem Sd.ro {I : Nat → Nat → Int32} {a d k : Nat} {W : Nat → Int32} {v : Int32} (h : Sd I a W) (hd : d < 12) (hk : k < 6) : Sd (up2 I (a + 3 + k) d v) a (ud W (23 + 6 * d + k) v) := by
  obtain ⟨h1, h2, h3⟩ := h
  refine ⟨fun x hx => ?_, fun q hq => ?_, fun d' hd' k' hk' => ?_⟩
  · have := (flds_in x hx).1
    rw [up2_row (by omega), ud_ne (by omega)]
    exact h1 x hx
  · rw [up2_row (by omega), up2_row (by omega), ud_ne (by omega), ud_ne (by omega)]
    exact h2 q hq
  · by_cases c : d' = d ∧ k' = k
    · rw [c.1, c.2, up2_at, ud_at]
    · rw [up2_ne (by omega), ud_ne (by omega)]
      exact h3 d' hd' k' hk'
/-- how many -/
def pn (W : Nat → Int32) : Nat := (W 0).toNatClampNeg
def dn (W : Nat → Int32) : Nat := (W 1).toNatClampNeg
def WOk (W : Nat → Int32) : Prop := pn W ≤ 6 ∧ dn W ≤ 12 ∧ W 0 = nI (pn W) ∧ W 1 = nI (dn W)
theorem WOk.of {W : Nat → Int32} {np nd : Nat} (hp : np ≤ 6) (hd : nd ≤ 12) (h0 : W 0 = nI np) (h1 : W 1 = nI nd) : WOk W ∧ pn W = np ∧ dn W = nd := by
  have e0 : pn W = np := by unfold pn; rw [h0, nI_clamp (by omega)]
  have e1 : dn W = nd := by unfold dn; rw [h1, nI_clamp (by omega)]
  exact ⟨⟨by omega, by omega, by rw [e0]; exact h0, by rw [e1]; exact h1⟩, e0, e1⟩
theorem WOk.eq {W W' : Nat → Int32} (h : WOk W) (e0 : W' 0 = W 0) (e1 : W' 1 = W 1) : WOk W' := by
  obtain ⟨h1, h2, h3, h4⟩ := h
  exact (WOk.of h1 h2 (e0.trans h3) (e1.trans h4)).1
abbrev SR : Type := Bool × Nat × (Nat → Int32)
/-- a number behind a word; where what is next begins then, or what is wrong -/
def nbP (T : Nat → Int32) (e k : Nat) (lo hi : Int32) (b : Nat) : Int32 × Nat := if isWd T e b k = true then (if nm T e (nx T e b) lo hi = -1 then (-1, nx T e b) else (nm T e (nx T e b) lo hi, nx T e (nx T e b))) else (-1, b)
def optP (T : Nat → Int32) (e k : Nat) (lo hi d : Int32) (b : Nat) : Bool × Int32 × Nat := if isWd T e b k = true then (if nm T e (nx T e b) lo hi = -1 then (false, -1, nx T e b) else (true, nm T e (nx T e b) lo hi, nx T e (nx T e b))) else (true, d, b)
def addPs (W : Nat → Int32) (x y : Int32) : Nat → Int32 := ud (ud (ud W (11 + 2 * pn W) x) (11 + 2 * pn W + 1) y) 0 (nI (pn W + 1))
def addDt (W : Nat → Int32) (o l a t n : Int32) : Nat → Int32 := ud (ud (ud (ud (ud (ud (ud W (23 + 6 * dn W + 0) o) (23 + 6 * dn W + 1) l) (23 + 6 * dn W + 2) a) (23 + 6 * dn W + 3) t) (23 + 6 * dn W + 4) n) (23 + 6 * dn W + 5) 0) 1 (nI (dn W + 1))
def perC (W : Nat → Int32) (k : Int32) (y : Int32 × Nat) : SR := if y.1 = -1 then (false, y.2, W) else (true, y.2, addPs W k y.1)
def perB (T : Nat → Int32) (e : Nat) (W : Nat → Int32) (x : Int32 × Nat) : SR := if x.1 = -1 then (false, x.2, W) else perC W x.1 (nbP T e 2 0 9 x.2)
def perP (T : Nat → Int32) (e b : Nat) (W : Nat → Int32) : SR := if W 0 = 6 then (false, b, W) else perB T e W (nbP T e 1 0 15 (nx T e b))
def duE (W : Nat → Int32) (o l a t : Int32) (y : Bool × Int32 × Nat) : SR := if y.1 = true then (true, y.2.2, addDt W o l a t y.2.1) else (false, y.2.2, W)
def duD (T : Nat → Int32) (e : Nat) (W : Nat → Int32) (o l a : Int32) (y : Bool × Int32 × Nat) : SR := if y.1 = true then duE W o l a y.2.1 (optP T e 8 0 (W 1 - 1) (-1) y.2.2) else (false, y.2.2, W)
def duC (T : Nat → Int32) (e : Nat) (W : Nat → Int32) (o l : Int32) (y : Bool × Int32 × Nat) : SR := if y.1 = true then duD T e W o l y.2.1 (optP T e 7 0 5 (-1) y.2.2) else (false, y.2.2, W)
def duB (T : Nat → Int32) (e : Nat) (W : Nat → Int32) (o : Int32) (x : Int32 × Nat) : SR := if x.1 = -1 then (false, x.2, W) else duC T e W o x.1 (optP T e 6 0 99 0 x.2)
def duA (T : Nat → Int32) (e : Nat) (W : Nat → Int32) (x : Int32 × Nat) : SR := if x.1 = -1 then (false, x.2, W) else duB T e W x.1 (nbP T e 5 1 99 x.2)
def dutP (T : Nat → Int32) (e b : Nat) (W : Nat → Int32) : SR := if W 1 = 12 then (false, b, W) else duA T e W (nbP T e 4 0 (W 0 - 1) (nx T e b))
def forP (T : Nat → Int32) (e b : Nat) (W : Nat → Int32) : SR := if nm T e b 0 (W 1 - 1) = -1 then (false, b, W) else if W (23 + 6 * (nm T e b 0 (W 1 - 1)).toNatClampNeg + 5) = 0 then (true, nx T e b, ud W (23 + 6 * (nm T e b 0 (W 1 - 1)).toNatClampNeg + 5) 2) else (false, b, W)
def setP (T : Nat → Int32) (e b : Nat) (W : Nat → Int32) (g : Nat) (lo hi : Int32) : SR := if nm T e b lo hi = -1 then (false, b, W) else (true, nx T e b, ud W g (nm T e b lo hi))
def stgP (T : Nat → Int32) (e b : Nat) (W : Nat → Int32) : SR :=
  if isWd T e b 10 = true then setP T e (nx T e b) W 6 0 100 else if isWd T e b 11 = true then setP T e (nx T e b) W 7 1 9 else if isWd T e b 12 = true then setP T e (nx T e b) W 8 0 50 else
  if isWd T e b 13 = true then setP T e (nx T e b) W 4 1 30 else if isWd T e b 14 = true then setP T e (nx T e b) W 5 0 999 else (false, b, W)
def linP (T : Nat → Int32) (e b : Nat) (W : Nat → Int32) : SR :=
  if isWd T e b 0 = true then perP T e b W else if isWd T e b 3 = true then dutP T e b W else if isWd T e b 9 = true then forP T e (nx T e b) W else
  stgP T e b W
def strsP (T : Nat → Int32) (e : Nat) : Nat → Nat → (Nat → Int32) → SR
  | 0, b, W => (false, b, W)
  | f + 1, b, W =>
    if (linP T e b W).1 = true then
      (if (linP T e b W).2.1 < e then
        (if sg T e (linP T e b W).2.1 59 = true then strsP T e f (nx T e (linP T e b W).2.1) (linP T e b W).2.2 else (false, (linP T e b W).2.1, W))
       else (true, (linP T e b W).2.1, (linP T e b W).2.2))
    else (false, (linP T e b W).2.1, W)
def strP (T : Nat → Int32) (e : Nat) (W : Nat → Int32) : SR := if bg T e 0 < e then strsP T e 14 (bg T e 0) W else (true, bg T e 0, W)
variable {T : Nat → Int32} {e b : Nat} {W : Nat → Int32}
theorem strsP_s {f : Nat} : strsP T e (f + 1) b W =
    if (linP T e b W).1 = true then
      (if (linP T e b W).2.1 < e then
        (if sg T e (linP T e b W).2.1 59 = true then strsP T e f (nx T e (linP T e b W).2.1) (linP T e b W).2.2 else (false, (linP T e b W).2.1, W))
       else (true, (linP T e b W).2.1, (linP T e b W).2.2))
    else (false, (linP T e b W).2.1, W) := rfl
theorem nm_in {lo hi : Int32} (h : ¬ nm T e b lo hi = -1) : lo ≤ nm T e b lo hi ∧ nm T e b lo hi ≤ hi ∧ kd T e b = 2 ∧ nm T e b lo hi = vl T e b := by
  unfold nm at h ⊢
  by_cases c : kd T e b = 2 ∧ lo ≤ vl T e b ∧ vl T e b ≤ hi
  · rw [if_pos c]
    exact ⟨c.2.1, c.2.2, c.1, rfl⟩
  · rw [if_neg c] at h
    exact absurd rfl h
/-- a number below so many -/
theorem nm_ix {n : Nat} (hn : n ≤ 12) (h : ¬ nm T e b 0 (nI n - 1) = -1) : ∃ j, j < n ∧ nm T e b 0 (nI n - 1) = nI j := by
  obtain ⟨h1, h2, -, -⟩ := nm_in h
  generalize nm T e b 0 (nI n - 1) = v at h1 h2
  rcases n with _ | n
  · exfalso
    exact absurd (Int32.le_trans h1 h2) (by decide)
  · rw [nI_dec, Int32.le_iff_toInt_le, nI_toInt (by omega)] at h2
    rw [Int32.le_iff_toInt_le, show (0 : Int32).toInt = 0 from rfl] at h1
    refine ⟨v.toInt.toNat, by omega, ?_⟩
    rw [← Int32.toInt_inj, nI_toInt (by omega)]
    omega
theorem nbP_t {k : Nat} {lo hi : Int32} (h : isWd T e b k = true) : nbP T e k lo hi b = if nm T e (nx T e b) lo hi = -1 then (-1, nx T e b) else (nm T e (nx T e b) lo hi, nx T e (nx T e b)) := if_pos h
theorem nbP_f {k : Nat} {lo hi : Int32} (h : isWd T e b k = false) : nbP T e k lo hi b = (-1, b) := if_neg (by rw [h]; exact Bool.false_ne_true)
theorem addPs_ok (h : WOk W) (h6 : ¬ W 0 = 6) {x y : Int32} : WOk (addPs W x y) := by
  obtain ⟨h1, h2, h3, h4⟩ := h
  have : pn W ≠ 6 := fun z => h6 (by rw [h3, z]; rfl)
  refine (WOk.of (np := pn W + 1) (nd := dn W) (by omega) h2 ud_at ?_).1
  show ud (ud (ud W (11 + 2 * pn W) x) (11 + 2 * pn W + 1) y) 0 (nI (pn W + 1)) 1 = _
  rw [ud_ne (by decide), ud_ne (by omega), ud_ne (by omega)]
  exact h4
theorem addDt_ok (h : WOk W) (h6 : ¬ W 1 = 12) {o l a t n : Int32} : WOk (addDt W o l a t n) := by
  obtain ⟨h1, h2, h3, h4⟩ := h
  have : dn W ≠ 12 := fun z => h6 (by rw [h4, z]; rfl)
  refine (WOk.of (np := pn W) (nd := dn W + 1) h1 (by omega) ?_ ud_at).1
  rw [ud_ne (by decide), ud_ne (by omega), ud_ne (by omega), ud_ne (by omega), ud_ne (by omega), ud_ne (by omega), ud_ne (by omega)]
  exact h3
theorem ud_ok (h : WOk W) {g : Nat} {v : Int32} (hg : 2 ≤ g) : WOk (ud W g v) := h.eq (ud_ne (by omega)) (ud_ne (by omega))
theorem perP_ok (h : WOk W) (hz : (perP T e b W).1 = true) : WOk (perP T e b W).2.2 := by
  unfold perP at hz ⊢
  by_cases c : W 0 = 6
  · rw [if_pos c] at hz
    cases hz
  rw [if_neg c] at hz ⊢
  unfold perB at hz ⊢
  by_cases c2 : (nbP T e 1 0 15 (nx T e b)).1 = -1
  · rw [if_pos c2] at hz
    cases hz
  rw [if_neg c2] at hz ⊢
  unfold perC at hz ⊢
  by_cases c3 : (nbP T e 2 0 9 (nbP T e 1 0 15 (nx T e b)).2).1 = -1
  · rw [if_pos c3] at hz
    cases hz
  rw [if_neg c3] at hz ⊢
  exact addPs_ok h c
theorem dutP_ok (h : WOk W) (hz : (dutP T e b W).1 = true) : WOk (dutP T e b W).2.2 := by
  unfold dutP at hz ⊢
  by_cases c : W 1 = 12
  · rw [if_pos c] at hz
    cases hz
  rw [if_neg c] at hz ⊢
  generalize nbP T e 4 0 (W 0 - 1) (nx T e b) = x at hz ⊢
  unfold duA at hz ⊢
  by_cases c2 : x.1 = -1
  · rw [if_pos c2] at hz
    cases hz
  rw [if_neg c2] at hz ⊢
  generalize nbP T e 5 1 99 x.2 = y at hz ⊢
  unfold duB at hz ⊢
  by_cases c3 : y.1 = -1
  · rw [if_pos c3] at hz
    cases hz
  rw [if_neg c3] at hz ⊢
  generalize optP T e 6 0 99 0 y.2 = u at hz ⊢
  unfold duC at hz ⊢
  by_cases c4 : u.1 = true
  · rw [if_pos c4] at hz ⊢
    generalize optP T e 7 0 5 (-1) u.2.2 = v at hz ⊢
    unfold duD at hz ⊢
    by_cases c5 : v.1 = true
    · rw [if_pos c5] at hz ⊢
      generalize optP T e 8 0 (W 1 - 1) (-1) v.2.2 = w at hz ⊢
      unfold duE at hz ⊢
      by_cases c6 : w.1 = true
      · rw [if_pos c6] at hz ⊢
        exact addDt_ok h c
      · rw [if_neg c6] at hz
        cases hz
    · rw [if_neg c5] at hz
      cases hz
  · rw [if_neg c4] at hz
    cases hz
theorem forP_ok (h : WOk W) (hz : (forP T e b W).1 = true) : WOk (forP T e b W).2.2 := by
  unfold forP at hz ⊢
  by_cases c : nm T e b 0 (W 1 - 1) = -1
  · rw [if_pos c] at hz
    cases hz
  rw [if_neg c] at hz ⊢
  by_cases c2 : W (23 + 6 * (nm T e b 0 (W 1 - 1)).toNatClampNeg + 5) = 0
  · rw [if_pos c2]
    exact ud_ok h (by omega)
  · rw [if_neg c2] at hz
    cases hz
theorem setP_ok (h : WOk W) {g : Nat} {lo hi : Int32} (hg : 2 ≤ g) (hz : (setP T e b W g lo hi).1 = true) : WOk (setP T e b W g lo hi).2.2 := by
  unfold setP at hz ⊢
  by_cases c : nm T e b lo hi = -1
  · rw [if_pos c] at hz
    cases hz
  rw [if_neg c]
  exact ud_ok h hg
theorem stgP_ok (h : WOk W) (hz : (stgP T e b W).1 = true) : WOk (stgP T e b W).2.2 := by
  unfold stgP at hz ⊢
  by_cases c : isWd T e b 10 = true
  · rw [if_pos c] at hz ⊢; exact setP_ok h (by decide) hz
  rw [if_neg c] at hz ⊢
  by_cases c : isWd T e b 11 = true
  · rw [if_pos c] at hz ⊢; exact setP_ok h (by decide) hz
  rw [if_neg c] at hz ⊢
  by_cases c : isWd T e b 12 = true
  · rw [if_pos c] at hz ⊢; exact setP_ok h (by decide) hz
  rw [if_neg c] at hz ⊢
  by_cases c : isWd T e b 13 = true
  · rw [if_pos c] at hz ⊢; exact setP_ok h (by decide) hz
  rw [if_neg c] at hz ⊢
  by_cases c : isWd T e b 14 = true
  · rw [if_pos c] at hz ⊢; exact setP_ok h (by decide) hz
  rw [if_neg c] at hz
  cases hz
theorem linP_ok (h : WOk W) (hz : (linP T e b W).1 = true) : WOk (linP T e b W).2.2 := by
  unfold linP at hz ⊢
  by_cases c : isWd T e b 0 = true
  · rw [if_pos c] at hz ⊢; exact perP_ok h hz
  rw [if_neg c] at hz ⊢
  by_cases c : isWd T e b 3 = true
  · rw [if_pos c] at hz ⊢; exact dutP_ok h hz
  rw [if_neg c] at hz ⊢
  by_cases c : isWd T e b 9 = true
  · rw [if_pos c] at hz ⊢; exact forP_ok h hz
  rw [if_neg c] at hz ⊢
  exact stgP_ok h hz
end P79m
end
section
/-! ===== the class: a text of the street (printed by program) ===== -/
section T79n
variable {S : aS} {I : Nat → Nat → Int32} {L : Nat → Nat → Int64} {w1 w2 t : Nat} {e b : Nat} {T W : Nat → Int32}
set_option maxRecDepth 100000
def sO (q k : Nat) : Bool := Nat.ble 204 q && Nat.ble q 217
theorem sO_in {q k : Nat} (h : sO q k = false) : q < 204 ∨ 217 < q := by
  unfold sO at h
  by_cases c1 : 204 ≤ q
  · rw [Nat.ble_eq_true_of_le c1] at h
    by_cases c2 : q ≤ 217
    · rw [Nat.ble_eq_true_of_le c2] at h
      cases h
    · omega
  · omega
theorem Fms {J J' : Nat → Nat → Int32} (h : Fm sO I J) (f : ∀ q, q ≠ 204 → J' q = J q) : Fm sO I J' := fun q k hq => by
  rw [f q (by have := sO_in hq; omega)]
  exact h q k hq
theorem Sd.nx {J : Nat → Nat → Int32} (h : Sd I 209 W) (f : ∀ q, q ≠ 204 → J q = I q) : Sd J 209 W := Sd.eq h fun q g1 g2 => f q (by omega)
theorem Fms.d {J J' : Nat → Nat → Int32} (h : Fm sO I J) (f : ∀ q, ¬ (204 ≤ q ∧ q ≤ 208) → J' q = J q) : Fm sO I J' := fun q k hq => by
  rw [f q (by have := sO_in hq; omega)]
  exact h q k hq
theorem s_addPerson {np : Nat} (h0 : I 209 0 = nI np) (h6 : np < 6) {x y : Int32} : SpE S m_X5_addPerson 13 [.ref 209, .int x, .int y] (hp I L w1 w2 t) none (hp (up2 (up2 (up2 I 210 np x) 211 np y) 209 0 (nI (np + 1))) L w1 w2 t) := by
  refine SpE_of ok_X5_addPerson rfl rfl ?_
  show AW S m_X5_addPerson 13 _ _ 0 0 0 [some (.ref 209), some (.int x), some (.int y)] [] (hp I L w1 w2 t)
  refine a_l0 rfl rfl rfl ?_
  refine a_getq rfl gfX5_9_5 rfl (rfl) ?_
  refine a_l0 rfl rfl rfl ?_
  refine a_getiv (v := nI np) rfl gfX5_56_5 rfl (h0) ?_
  refine a_l1 rfl rfl rfl ?_
  refine a_eSN0 rfl lX5_82 mo_X11_setAt (sp_X11_setAt rfl) rfl rfl rfl rfl ?_
  rw [setF_nI h6 (by decide)]
  refine a_l0 rfl rfl rfl ?_
  refine a_getq rfl gfX5_15_5 rfl (rfl) ?_
  refine a_l0 rfl rfl rfl ?_
  refine a_getiv (v := nI np) rfl gfX5_56_5 rfl ((congrFun (up2_row (by decide)) 0).trans h0) ?_
  refine a_l2 rfl rfl rfl ?_
  refine a_eSN0 rfl lX5_82 mo_X11_setAt (sp_X11_setAt rfl) rfl rfl rfl rfl ?_
  rw [setF_nI h6 (by decide)]
  refine a_l0 rfl rfl rfl ?_
  refine a_s rfl rfl ?_
  refine a_getiv (v := nI np) rfl gfX5_56_5 rfl ((congrFun (up2_row (by decide)) 0).trans ((congrFun (up2_row (by decide)) 0).trans h0)) ?_
  refine a_s rfl rfl ?_
  refine a_s rfl rfl ?_
  refine a_top (y := nI (np + 1)) ((nI_succ np).symm) ?_
  refine a_puti rfl pfX5_56_5 rfl ?_
  exact a_vret rfl rfl ⟨rfl, rfl⟩
def adH (I : Nat → Nat → Int32) (nd : Nat) (x0 x1 x2 x3 x4 : Int32) : Nat → Nat → Int32 := up2 (up2 (up2 (up2 (up2 (up2 (up2 I 212 nd x0) 213 nd x1) 214 nd x2) 215 nd x3) 216 nd x4) 217 nd 0) 209 3 (nI (nd + 1))
theorem s_addDuty {nd : Nat} (h0 : I 209 3 = nI nd) (h6 : nd < 12) {x0 x1 x2 x3 x4 : Int32} : SpE S m_X5_addDuty 13 [.ref 209, .int x0, .int x1, .int x2, .int x3, .int x4] (hp I L w1 w2 t) none (hp (adH I nd x0 x1 x2 x3 x4) L w1 w2 t) := by
  refine SpE_of ok_X5_addDuty rfl rfl ?_
  show AW S m_X5_addDuty 13 _ _ 0 0 0 [some (.ref 209), some (.int x0), some (.int x1), some (.int x2), some (.int x3), some (.int x4)] [] (hp I L w1 w2 t)
  refine a_l0 rfl rfl rfl ?_
  refine a_getq rfl gfX5_18_5 rfl (rfl) ?_
  refine a_l0 rfl rfl rfl ?_
  refine a_getiv (v := nI nd) rfl gfX5_63_5 rfl (h0) ?_
  refine a_l1 rfl rfl rfl ?_
  refine a_eSN0 rfl lX5_82 mo_X11_setAt (sp_X11_setAt rfl) rfl rfl rfl rfl ?_
  rw [setF_nI h6 (by decide)]
  refine a_l0 rfl rfl rfl ?_
  refine a_getq rfl gfX5_21_5 rfl (rfl) ?_
  refine a_l0 rfl rfl rfl ?_
  refine a_getiv (v := nI nd) rfl gfX5_63_5 rfl ((congrFun (up2_row (by decide)) 3).trans (h0)) ?_
  refine a_l2 rfl rfl rfl ?_
  refine a_eSN0 rfl lX5_82 mo_X11_setAt (sp_X11_setAt rfl) rfl rfl rfl rfl ?_
  rw [setF_nI h6 (by decide)]
  refine a_l0 rfl rfl rfl ?_
  refine a_getq rfl gfX5_24_5 rfl (rfl) ?_
  refine a_l0 rfl rfl rfl ?_
  refine a_getiv (v := nI nd) rfl gfX5_63_5 rfl ((congrFun (up2_row (by decide)) 3).trans ((congrFun (up2_row (by decide)) 3).trans (h0))) ?_
  refine a_l3 rfl rfl rfl ?_
  refine a_eSN0 rfl lX5_82 mo_X11_setAt (sp_X11_setAt rfl) rfl rfl rfl rfl ?_
  rw [setF_nI h6 (by decide)]
  refine a_l0 rfl rfl rfl ?_
  refine a_getq rfl gfX5_27_5 rfl (rfl) ?_
  refine a_l0 rfl rfl rfl ?_
  refine a_getiv (v := nI nd) rfl gfX5_63_5 rfl ((congrFun (up2_row (by decide)) 3).trans ((congrFun (up2_row (by decide)) 3).trans ((congrFun (up2_row (by decide)) 3).trans (h0)))) ?_
  refine a_l4 rfl rfl rfl ?_
  refine a_eSN0 rfl lX5_82 mo_X11_setAt (sp_X11_setAt rfl) rfl rfl rfl rfl ?_
  rw [setF_nI h6 (by decide)]
  refine a_l0 rfl rfl rfl ?_
  refine a_getq rfl gfX5_30_5 rfl (rfl) ?_
  refine a_l0 rfl rfl rfl ?_
  refine a_getiv (v := nI nd) rfl gfX5_63_5 rfl ((congrFun (up2_row (by decide)) 3).trans ((congrFun (up2_row (by decide)) 3).trans ((congrFun (up2_row (by decide)) 3).trans ((congrFun (up2_row (by decide)) 3).trans (h0))))) ?_
  refine a_l5 rfl rfl rfl ?_
  refine a_eSN0 rfl lX5_82 mo_X11_setAt (sp_X11_setAt rfl) rfl rfl rfl rfl ?_
  rw [setF_nI h6 (by decide)]
  refine a_l0 rfl rfl rfl ?_
  refine a_getq rfl gfX5_33_5 rfl (rfl) ?_
  refine a_l0 rfl rfl rfl ?_
  refine a_getiv (v := nI nd) rfl gfX5_63_5 rfl ((congrFun (up2_row (by decide)) 3).trans ((congrFun (up2_row (by decide)) 3).trans ((congrFun (up2_row (by decide)) 3).trans ((congrFun (up2_row (by decide)) 3).trans ((congrFun (up2_row (by decide)) 3).trans (h0)))))) ?_
  refine a_s rfl rfl ?_
  refine a_eSN0 rfl lX5_82 mo_X11_setAt (sp_X11_setAt rfl) rfl rfl rfl rfl ?_
  rw [setF_nI h6 (by decide)]
  refine a_l0 rfl rfl rfl ?_
  refine a_s rfl rfl ?_
  refine a_getiv (v := nI nd) rfl gfX5_63_5 rfl ((congrFun (up2_row (by decide)) 3).trans ((congrFun (up2_row (by decide)) 3).trans ((congrFun (up2_row (by decide)) 3).trans ((congrFun (up2_row (by decide)) 3).trans ((congrFun (up2_row (by decide)) 3).trans ((congrFun (up2_row (by decide)) 3).trans (h0))))))) ?_
  refine a_s rfl rfl ?_
  refine a_s rfl rfl ?_
  refine a_top (y := nI (nd + 1)) ((nI_succ nd).symm) ?_
  refine a_puti rfl pfX5_63_5 rfl ?_
  exact a_vret rfl rfl ⟨rfl, rfl⟩
theorem adH_fm {J : Nat → Nat → Int32} {nd : Nat} {x0 x1 x2 x3 x4 : Int32} (h : Fm sO I J) : Fm sO I (adH J nd x0 x1 x2 x3 x4) := Fm.up (Fm.up (Fm.up (Fm.up (Fm.up (Fm.up (Fm.up h rfl) rfl) rfl) rfl) rfl) rfl) rfl
theorem Sd.ad {nd : Nat} {x0 x1 x2 x3 x4 : Int32} (h : Sd I 209 W) (hn : dn W = nd) (h6 : nd < 12) : Sd (adH I nd x0 x1 x2 x3 x4) 209 (addDt W x0 x1 x2 x3 x4) := by
  subst hn
  exact Sd.pu (f := 3) (g := 1) (Sd.ro (k := 5) (Sd.ro (k := 4) (Sd.ro (k := 3) (Sd.ro (k := 2) (Sd.ro (k := 1) (Sd.ro (k := 0) h h6 (by decide)) h6 (by decide)) h6 (by decide)) h6 (by decide)) h6 (by decide)) h6 (by decide)) (by decide)
theorem s_readNumberOf (hw : WdS S) (h : Ats T e b w1 I) {k : Nat} (hk : k < 27) {lo hi : Int32} (h0 : 0 ≤ lo) : Sp S m_X6_readNumberOf 15 0 0 [.ref 203, .ref (100 + k), .int lo, .int hi] (hp I L w1 w2 t) (fun v h' => v = some (.int (nbP T e k lo hi b).1) ∧ ∃ J w, h' = hp J L w w2 t ∧ Ats T e (nbP T e k lo hi b).2 w J ∧ ∀ q, q ≠ 204 → J q = I q) nX := by
  refine Sp_of ok_X6_readNumberOf rfl rfl ?_
  show AW S m_X6_readNumberOf 15 _ _ 0 0 0 [some (.ref 203), some (.ref (100 + k)), some (.int lo), some (.int hi)] [] (hp I L w1 w2 t)
  refine a_l0 rfl rfl rfl ?_
  refine a_getq rfl gfX6_20_6 rfl (rfl) ?_
  refine a_l1 rfl rfl rfl ?_
  refine a_gV rfl lX6_55 mo_X9_takeWord (s_takeWord (k := k) hw h hk) rfl rfl rfl ⟨9, _, rfl, rfl, rfl⟩ rfl (fun v' h' hv => ?_)
  obtain ⟨rfl, J, w, rfl, hA, hf⟩ := hv
  cases c : isWd T e b k with
  | false =>
    rw [c, if_neg Bool.false_ne_true] at hA
    refine a_if_eq rfl (fun _ => ?_) (fun z => absurd rfl z)
    refine a_s rfl rfl ?_
    rw [nbP_f c]
    exact a_iret rfl rfl ⟨rfl, J, w, rfl, hA, hf⟩
  | true =>
    rw [c, if_pos rfl] at hA
    refine a_if_eq rfl (fun z => absurd z (by decide)) (fun _ => ?_)
    refine a_l0 rfl rfl rfl ?_
    refine a_getq rfl gfX6_20_6 rfl (rfl) ?_
    refine a_l2 rfl rfl rfl ?_
    refine a_l3 rfl rfl rfl ?_
    refine a_gV rfl lX6_149 mo_X9_takeNumber (s_takeNumber hw hA h0) rfl rfl rfl ⟨9, _, rfl, rfl, rfl⟩ rfl (fun v' h' hv => ?_)
    obtain ⟨rfl, J2, w3, rfl, hA2, hf2⟩ := hv
    refine a_goto rfl ?_
    rw [nbP_t c]
    by_cases cn : nm T e (nx T e b) lo hi = -1
    · rw [if_pos cn] at hA2 ⊢
      exact a_iret rfl rfl ⟨by rw [cn], J2, w3, rfl, hA2, fun q hq => (hf2 q hq).trans (hf q hq)⟩
    · rw [if_neg cn] at hA2 ⊢
      exact a_iret rfl rfl ⟨rfl, J2, w3, rfl, hA2, fun q hq => (hf2 q hq).trans (hf q hq)⟩
/-- of the draft, where a text is wrong -/
def Dk (J : Nat → Nat → Int32) : Prop := ∃ nd, nd ≤ 12 ∧ J 209 3 = nI nd
theorem Dk.sd {J : Nat → Nat → Int32} (h : Sd J 209 W) (hW : WOk W) : Dk J := ⟨dn W, hW.2.1, (Sd.fd h (f := 3) (g := 1) (by decide)).trans hW.2.2.2⟩
theorem Dk.nx {J : Nat → Nat → Int32} (h : Dk I) (f : ∀ q, q ≠ 204 → J q = I q) : Dk J := by
  obtain ⟨nd, h1, h2⟩ := h
  exact ⟨nd, h1, (congrFun (f 209 (by decide)) 3).trans h2⟩
theorem Dk.up {f : Nat} {v : Int32} (h : Dk I) (hf : 3 ≠ f) : Dk (up2 I 209 f v) := by
  obtain ⟨nd, h1, h2⟩ := h
  exact ⟨nd, h1, (up2_ne (Or.inr hf)).trans h2⟩
/-- a piece of a line, read as the function says -/
def QLs (T : Nat → Int32) (e : Nat) (r : SR) (I : Nat → Nat → Int32) (L : Nat → Nat → Int64) (w2 t : Nat) : Option Value → aH → Prop := fun v h' => v = some (.int (bI r.1)) ∧ ∃ J w, h' = hp J L w w2 t ∧ Fm sO I J ∧ Ats T e r.2.1 w J ∧ (r.1 = false → Dk J) ∧ (r.1 = true → Sd J 209 r.2.2)
theorem QLs.no {J : Nat → Nat → Int32} {p w : Nat} {W' : Nat → Int32} (F : Fm sO I J) (hA : Ats T e p w J) (hk : Dk J) : QLs T e (false, p, W') I L w2 t (some (.int 0)) (hp J L w w2 t) := ⟨rfl, J, w, rfl, F, hA, fun _ => hk, fun z => by cases z⟩
theorem QLs.yes {J : Nat → Nat → Int32} {p w : Nat} {W' : Nat → Int32} (F : Fm sO I J) (hA : Ats T e p w J) (hD : Sd J 209 W') : QLs T e (true, p, W') I L w2 t (some (.int 1)) (hp J L w w2 t) := ⟨rfl, J, w, rfl, F, hA, fun z => (by cases z), fun _ => hD⟩
theorem s_readPerson (hw : WdS S) (h : Ats T e b w1 I) (hD : Sd I 209 W) (hW : WOk W) (h6 : ¬ W 0 = 6) : Sp S m_X6_readPerson 17 0 0 [.ref 203] (hp I L w1 w2 t) (QLs T e (perB T e W (nbP T e 1 0 15 (nx T e b))) I L w2 t) nX := by
  have hp6 : pn W < 6 := by
    have := hW.1
    have : pn W ≠ 6 := fun z => h6 (by rw [hW.2.2.1, z]; rfl)
    omega
  refine Sp_of ok_X6_readPerson rfl rfl ?_
  show AW S m_X6_readPerson 17 _ _ 0 0 0 [some (.ref 203), none, none] [] (hp I L w1 w2 t)
  refine a_l0 rfl rfl rfl ?_
  refine a_getq rfl gfX6_20_6 rfl (rfl) ?_
  refine a_gV rfl lX6_65 mo_X9_next (sg_next hw h) rfl rfl rfl ⟨9, _, rfl, rfl, rfl⟩ rfl (fun v' h' hv => ?_)
  obtain ⟨rfl, J1, wa, rfl, hA1, hf1⟩ := hv
  refine a_l0 rfl rfl rfl ?_
  refine a_gets rfl (inC4 (i := 173) rfl rfl) (hw.st (i := 1) (by decide)) ?_
  refine a_s rfl rfl ?_
  refine a_s rfl rfl ?_
  refine a_gV rfl lX6_71 mo_X6_readNumberOf (s_readNumberOf (k := 1) (lo := 0) (hi := 15) hw hA1 (by decide) (by decide)) rfl rfl rfl ⟨6, _, rfl, rfl, rfl⟩ rfl (fun v' h' hv => ?_)
  obtain ⟨rfl, J2, wb, rfl, hA2, hf2⟩ := hv
  have F2 : Fm sO I J2 := Fms (Fms Fm.rf hf1) hf2
  generalize nbP T e 1 0 15 (nx T e b) = x at hA2 ⊢
  refine a_s1 rfl rfl rfl rfl rfl rfl ?_
  refine a_l1 rfl rfl rfl ?_
  refine a_s rfl rfl ?_
  refine a_ic_ne rfl (fun c1 => ?_) (fun c1 => ?_)
  rotate_left
  · refine a_s rfl rfl ?_
    rw [show perB T e W x = (false, x.2, W) from if_pos c1]
    exact a_zret rfl rfl rfl (QLs.no F2 hA2 (Dk.nx (Dk.nx (Dk.sd hD hW) hf1) hf2))
  rw [show perB T e W x = perC W x.1 (nbP T e 2 0 9 x.2) from if_neg c1]
  refine a_l0 rfl rfl rfl ?_
  refine a_gets rfl (inC4 (i := 181) rfl rfl) (hw.st (i := 2) (by decide)) ?_
  refine a_s rfl rfl ?_
  refine a_s rfl rfl ?_
  refine a_gV rfl lX6_71 mo_X6_readNumberOf (s_readNumberOf (k := 2) (lo := 0) (hi := 9) hw hA2 (by decide) (by decide)) rfl rfl rfl ⟨6, _, rfl, rfl, rfl⟩ rfl (fun v' h' hv => ?_)
  obtain ⟨rfl, J3, wc, rfl, hA3, hf3⟩ := hv
  have F3 : Fm sO I J3 := Fms F2 hf3
  have D3 : Sd J3 209 W := Sd.nx (Sd.nx (Sd.nx hD hf1) hf2) hf3
  generalize nbP T e 2 0 9 x.2 = y at hA3 ⊢
  refine a_s2 rfl rfl rfl rfl rfl rfl ?_
  refine a_l2 rfl rfl rfl ?_
  refine a_s rfl rfl ?_
  refine a_ic_ne rfl (fun c2 => ?_) (fun c2 => ?_)
  rotate_left
  · refine a_s rfl rfl ?_
    rw [show perC W x.1 y = (false, y.2, W) from if_pos c2]
    exact a_zret rfl rfl rfl (QLs.no F3 hA3 (Dk.sd D3 hW))
  rw [show perC W x.1 y = (true, y.2, addPs W x.1 y.1) from if_neg c2]
  refine a_l0 rfl rfl rfl ?_
  refine a_getq rfl gfX6_16_6 rfl (rfl) ?_
  refine a_l1 rfl rfl rfl ?_
  refine a_l2 rfl rfl rfl ?_
  refine a_eV0 rfl lX6_78 mo_X5_addPerson (s_addPerson ((Sd.fd D3 (f := 0) (g := 0) (by decide)).trans hW.2.2.1) hp6) rfl rfl rfl ⟨5, _, rfl, rfl, rfl⟩ rfl ?_
  refine a_s rfl rfl ?_
  exact a_zret rfl rfl rfl (QLs.yes (Fm.up (Fm.up (Fm.up F3 rfl) rfl) rfl) (Ats.eq hA3 fun q g1 g2 => by rw [up2_row (by omega), up2_row (by omega), up2_row (by omega)]) (Sd.pu (f := 0) (g := 0) (Sd.fr (Sd.kb D3 hp6) hp6) (by decide)))
theorem s_du161 (hW : WOk W) (h12 : ¬ W 1 = 12) {x0 x1 x2 x3 x4 : Int32} {p w : Nat} {J : Nat → Nat → Int32} (F : Fm sO I J) (hA : Ats T e p w J) (hD : Sd J 209 W) : AW S m_X6_readDuty 17 (QLs T e (true, p, addDt W x0 x1 x2 x3 x4) I L w2 t) nX 0 0 161 [some (.ref 203), some (.int x0), some (.int x1), some (.int x2), some (.int x3), some (.int x4)] [] (hp J L w w2 t) := by
  have hp6 : dn W < 12 := by
    have := hW.2.1
    have : dn W ≠ 12 := fun z => h12 (by rw [hW.2.2.2, z]; rfl)
    omega
  refine a_l0 rfl rfl rfl ?_
  refine a_getq rfl gfX6_16_6 rfl (rfl) ?_
  refine a_l1 rfl rfl rfl ?_
  refine a_l2 rfl rfl rfl ?_
  refine a_l3 rfl rfl rfl ?_
  refine a_l4 rfl rfl rfl ?_
  refine a_l5 rfl rfl rfl ?_
  refine a_eV0 rfl lX6_97 mo_X5_addDuty (s_addDuty ((Sd.fd hD (f := 3) (g := 1) (by decide)).trans hW.2.2.2) hp6) rfl rfl rfl ⟨5, _, rfl, rfl, rfl⟩ rfl ?_
  refine a_s rfl rfl ?_
  exact a_zret rfl rfl rfl (QLs.yes (adH_fm F) (Ats.eq hA fun q g1 g2 => by unfold adH; rw [up2_row (by omega), up2_row (by omega), up2_row (by omega), up2_row (by omega), up2_row (by omega), up2_row (by omega), up2_row (by omega)]) (Sd.ad hD rfl hp6))
theorem s_du118 (hw : WdS S) (hW : WOk W) (h12 : ¬ W 1 = 12) {x0 x1 x2 x3 : Int32} {p w : Nat} {J : Nat → Nat → Int32} (F : Fm sO I J) (hA : Ats T e p w J) (hD : Sd J 209 W) : AW S m_X6_readDuty 17 (QLs T e (duE W x0 x1 x2 x3 (optP T e 8 0 (W 1 - 1) (-1) p)) I L w2 t) nX 0 0 118 [some (.ref 203), some (.int x0), some (.int x1), some (.int x2), some (.int x3), none] [] (hp J L w w2 t) := by
  refine a_s rfl rfl ?_
  refine a_s5 rfl rfl rfl rfl rfl rfl ?_
  refine a_l0 rfl rfl rfl ?_
  refine a_getq rfl gfX6_20_6 rfl (rfl) ?_
  refine a_getr rfl gfX6_24_9 rfl ?_
  refine a_pop1 (show _ = rv w :: _ from rfl) ?_
  refine a_gets rfl (inC4 (i := 201) rfl rfl) (hw.st (i := 8) (by decide)) ?_
  refine a_acmp_ne (rx := w) (ry := 100 + 8 + 1) rfl ((Ats.wk hA).ac hw) (WK.ck hw (i := 8) (by decide)) (fun c => ?_) (fun c => ?_)
  · have d1 : isWd T e p 8 = false := Bool.eq_false_iff.mpr fun z => c ((Ats.wo hA).trans ((wr_is (by decide)).mpr z))
    rw [show optP T e 8 0 (W 1 - 1) (-1) p = (true, (-1), p) from if_neg (by rw [d1]; exact Bool.false_ne_true)]
    rw [show duE W x0 x1 x2 x3 (true, (-1), p) = (true, p, addDt W x0 x1 x2 x3 (-1)) from if_pos rfl]
    exact s_du161 hW h12 F hA hD
  · have d1 : isWd T e p 8 = true := (wr_is (by decide)).mp ((Ats.wo hA).symm.trans c)
    refine a_l0 rfl rfl rfl ?_
    refine a_gets rfl (inC4 (i := 201) rfl rfl) (hw.st (i := 8) (by decide)) ?_
    refine a_s rfl rfl ?_
    refine a_l0 rfl rfl rfl ?_
    refine a_getq rfl gfX6_16_6 rfl (rfl) ?_
    refine a_getiv (v := nI (dn W)) rfl gfX6_46_5 rfl ((Sd.fd hD (f := 3) (g := 1) (by decide)).trans hW.2.2.2) ?_
    refine a_s rfl rfl ?_
    refine a_s rfl rfl ?_
    refine a_top (y := W 1 - 1) (by rw [hW.2.2.2]) ?_
    refine a_gV rfl lX6_71 mo_X6_readNumberOf (s_readNumberOf (k := 8) (lo := 0) (hi := (W 1 - 1)) hw hA (by decide) (by decide)) rfl rfl rfl ⟨6, _, rfl, rfl, rfl⟩ rfl (fun v' h' hv => ?_)
    obtain ⟨rfl, J2, w', rfl, hA2, hf2⟩ := hv
    rw [nbP_t d1] at hA2 ⊢
    by_cases cn : nm T e (nx T e p) 0 (W 1 - 1) = -1
    · rw [if_pos cn] at hA2 ⊢
      rw [show optP T e 8 0 (W 1 - 1) (-1) p = (false, -1, nx T e p) from (if_pos d1).trans (if_pos cn)]
      refine a_s5 rfl rfl rfl rfl rfl rfl ?_
      refine a_l5 rfl rfl rfl ?_
      refine a_s rfl rfl ?_
      refine a_ic_ne rfl (fun z => absurd rfl z) (fun _ => ?_)
      refine a_s rfl rfl ?_
      rw [show duE W x0 x1 x2 x3 (false, -1, nx T e p) = (false, nx T e p, W) from if_neg Bool.false_ne_true]
      exact a_zret rfl rfl rfl (QLs.no (Fms F hf2) hA2 (Dk.nx (Dk.sd hD hW) hf2))
    · rw [if_neg cn] at hA2 ⊢
      rw [show optP T e 8 0 (W 1 - 1) (-1) p = (true, nm T e (nx T e p) 0 (W 1 - 1), nx T e (nx T e p)) from (if_pos d1).trans (if_neg cn)]
      refine a_s5 rfl rfl rfl rfl rfl rfl ?_
      refine a_l5 rfl rfl rfl ?_
      refine a_s rfl rfl ?_
      refine a_ic_ne rfl (fun _ => ?_) (fun z => absurd z cn)
      rw [show duE W x0 x1 x2 x3 (true, nm T e (nx T e p) 0 (W 1 - 1), nx T e (nx T e p)) = (true, nx T e (nx T e p), addDt W x0 x1 x2 x3 (nm T e (nx T e p) 0 (W 1 - 1))) from if_pos rfl]
      exact s_du161 hW h12 (Fms F hf2) hA2 (Sd.nx hD hf2)
theorem s_du83 (hw : WdS S) (hW : WOk W) (h12 : ¬ W 1 = 12) {x0 x1 x2 : Int32} {p w : Nat} {J : Nat → Nat → Int32} (F : Fm sO I J) (hA : Ats T e p w J) (hD : Sd J 209 W) : AW S m_X6_readDuty 17 (QLs T e (duD T e W x0 x1 x2 (optP T e 7 0 5 (-1) p)) I L w2 t) nX 0 0 83 [some (.ref 203), some (.int x0), some (.int x1), some (.int x2), none, none] [] (hp J L w w2 t) := by
  refine a_s rfl rfl ?_
  refine a_s4 rfl rfl rfl rfl rfl rfl ?_
  refine a_l0 rfl rfl rfl ?_
  refine a_getq rfl gfX6_20_6 rfl (rfl) ?_
  refine a_getr rfl gfX6_24_9 rfl ?_
  refine a_pop1 (show _ = rv w :: _ from rfl) ?_
  refine a_gets rfl (inC4 (i := 199) rfl rfl) (hw.st (i := 7) (by decide)) ?_
  refine a_acmp_ne (rx := w) (ry := 100 + 7 + 1) rfl ((Ats.wk hA).ac hw) (WK.ck hw (i := 7) (by decide)) (fun c => ?_) (fun c => ?_)
  · have d1 : isWd T e p 7 = false := Bool.eq_false_iff.mpr fun z => c ((Ats.wo hA).trans ((wr_is (by decide)).mpr z))
    rw [show optP T e 7 0 5 (-1) p = (true, (-1), p) from if_neg (by rw [d1]; exact Bool.false_ne_true)]
    rw [show duD T e W x0 x1 x2 (true, (-1), p) = duE W x0 x1 x2 (-1) (optP T e 8 0 (W 1 - 1) (-1) (p)) from if_pos rfl]
    exact s_du118 hw hW h12 F hA hD
  · have d1 : isWd T e p 7 = true := (wr_is (by decide)).mp ((Ats.wo hA).symm.trans c)
    refine a_l0 rfl rfl rfl ?_
    refine a_gets rfl (inC4 (i := 199) rfl rfl) (hw.st (i := 7) (by decide)) ?_
    refine a_s rfl rfl ?_
    refine a_s rfl rfl ?_
    refine a_gV rfl lX6_71 mo_X6_readNumberOf (s_readNumberOf (k := 7) (lo := 0) (hi := 5) hw hA (by decide) (by decide)) rfl rfl rfl ⟨6, _, rfl, rfl, rfl⟩ rfl (fun v' h' hv => ?_)
    obtain ⟨rfl, J2, w', rfl, hA2, hf2⟩ := hv
    rw [nbP_t d1] at hA2 ⊢
    by_cases cn : nm T e (nx T e p) 0 5 = -1
    · rw [if_pos cn] at hA2 ⊢
      rw [show optP T e 7 0 5 (-1) p = (false, -1, nx T e p) from (if_pos d1).trans (if_pos cn)]
      refine a_s4 rfl rfl rfl rfl rfl rfl ?_
      refine a_l4 rfl rfl rfl ?_
      refine a_s rfl rfl ?_
      refine a_ic_ne rfl (fun z => absurd rfl z) (fun _ => ?_)
      refine a_s rfl rfl ?_
      rw [show duD T e W x0 x1 x2 (false, -1, nx T e p) = (false, nx T e p, W) from if_neg Bool.false_ne_true]
      exact a_zret rfl rfl rfl (QLs.no (Fms F hf2) hA2 (Dk.nx (Dk.sd hD hW) hf2))
    · rw [if_neg cn] at hA2 ⊢
      rw [show optP T e 7 0 5 (-1) p = (true, nm T e (nx T e p) 0 5, nx T e (nx T e p)) from (if_pos d1).trans (if_neg cn)]
      refine a_s4 rfl rfl rfl rfl rfl rfl ?_
      refine a_l4 rfl rfl rfl ?_
      refine a_s rfl rfl ?_
      refine a_ic_ne rfl (fun _ => ?_) (fun z => absurd z cn)
      rw [show duD T e W x0 x1 x2 (true, nm T e (nx T e p) 0 5, nx T e (nx T e p)) = duE W x0 x1 x2 (nm T e (nx T e p) 0 5) (optP T e 8 0 (W 1 - 1) (-1) (nx T e (nx T e p))) from if_pos rfl]
      exact s_du118 hw hW h12 (Fms F hf2) hA2 (Sd.nx hD hf2)
theorem s_du50 (hw : WdS S) (hW : WOk W) (h12 : ¬ W 1 = 12) {x0 x1 : Int32} {p w : Nat} {J : Nat → Nat → Int32} (F : Fm sO I J) (hA : Ats T e p w J) (hD : Sd J 209 W) : AW S m_X6_readDuty 17 (QLs T e (duC T e W x0 x1 (optP T e 6 0 99 0 p)) I L w2 t) nX 0 0 50 [some (.ref 203), some (.int x0), some (.int x1), none, none, none] [] (hp J L w w2 t) := by
  refine a_s rfl rfl ?_
  refine a_s3 rfl rfl rfl rfl rfl rfl ?_
  refine a_l0 rfl rfl rfl ?_
  refine a_getq rfl gfX6_20_6 rfl (rfl) ?_
  refine a_getr rfl gfX6_24_9 rfl ?_
  refine a_pop1 (show _ = rv w :: _ from rfl) ?_
  refine a_gets rfl (inC4 (i := 197) rfl rfl) (hw.st (i := 6) (by decide)) ?_
  refine a_acmp_ne (rx := w) (ry := 100 + 6 + 1) rfl ((Ats.wk hA).ac hw) (WK.ck hw (i := 6) (by decide)) (fun c => ?_) (fun c => ?_)
  · have d1 : isWd T e p 6 = false := Bool.eq_false_iff.mpr fun z => c ((Ats.wo hA).trans ((wr_is (by decide)).mpr z))
    rw [show optP T e 6 0 99 0 p = (true, 0, p) from if_neg (by rw [d1]; exact Bool.false_ne_true)]
    rw [show duC T e W x0 x1 (true, 0, p) = duD T e W x0 x1 (0) (optP T e 7 0 5 (-1) (p)) from if_pos rfl]
    exact s_du83 hw hW h12 F hA hD
  · have d1 : isWd T e p 6 = true := (wr_is (by decide)).mp ((Ats.wo hA).symm.trans c)
    refine a_l0 rfl rfl rfl ?_
    refine a_gets rfl (inC4 (i := 197) rfl rfl) (hw.st (i := 6) (by decide)) ?_
    refine a_s rfl rfl ?_
    refine a_s rfl rfl ?_
    refine a_gV rfl lX6_71 mo_X6_readNumberOf (s_readNumberOf (k := 6) (lo := 0) (hi := 99) hw hA (by decide) (by decide)) rfl rfl rfl ⟨6, _, rfl, rfl, rfl⟩ rfl (fun v' h' hv => ?_)
    obtain ⟨rfl, J2, w', rfl, hA2, hf2⟩ := hv
    rw [nbP_t d1] at hA2 ⊢
    by_cases cn : nm T e (nx T e p) 0 99 = -1
    · rw [if_pos cn] at hA2 ⊢
      rw [show optP T e 6 0 99 0 p = (false, -1, nx T e p) from (if_pos d1).trans (if_pos cn)]
      refine a_s3 rfl rfl rfl rfl rfl rfl ?_
      refine a_l3 rfl rfl rfl ?_
      refine a_s rfl rfl ?_
      refine a_ic_ne rfl (fun z => absurd rfl z) (fun _ => ?_)
      refine a_s rfl rfl ?_
      rw [show duC T e W x0 x1 (false, -1, nx T e p) = (false, nx T e p, W) from if_neg Bool.false_ne_true]
      exact a_zret rfl rfl rfl (QLs.no (Fms F hf2) hA2 (Dk.nx (Dk.sd hD hW) hf2))
    · rw [if_neg cn] at hA2 ⊢
      rw [show optP T e 6 0 99 0 p = (true, nm T e (nx T e p) 0 99, nx T e (nx T e p)) from (if_pos d1).trans (if_neg cn)]
      refine a_s3 rfl rfl rfl rfl rfl rfl ?_
      refine a_l3 rfl rfl rfl ?_
      refine a_s rfl rfl ?_
      refine a_ic_ne rfl (fun _ => ?_) (fun z => absurd z cn)
      rw [show duC T e W x0 x1 (true, nm T e (nx T e p) 0 99, nx T e (nx T e p)) = duD T e W x0 x1 (nm T e (nx T e p) 0 99) (optP T e 7 0 5 (-1) (nx T e (nx T e p))) from if_pos rfl]
      exact s_du83 hw hW h12 (Fms F hf2) hA2 (Sd.nx hD hf2)
theorem s_readDuty (hw : WdS S) (h : Ats T e b w1 I) (hD : Sd I 209 W) (hW : WOk W) (h12 : ¬ W 1 = 12) : Sp S m_X6_readDuty 17 0 0 [.ref 203] (hp I L w1 w2 t) (QLs T e (duA T e W (nbP T e 4 0 (W 0 - 1) (nx T e b))) I L w2 t) nX := by
  refine Sp_of ok_X6_readDuty rfl rfl ?_
  show AW S m_X6_readDuty 17 _ _ 0 0 0 [some (.ref 203), none, none, none, none, none] [] (hp I L w1 w2 t)
  refine a_l0 rfl rfl rfl ?_
  refine a_getq rfl gfX6_20_6 rfl (rfl) ?_
  refine a_gV rfl lX6_65 mo_X9_next (sg_next hw h) rfl rfl rfl ⟨9, _, rfl, rfl, rfl⟩ rfl (fun v' h' hv => ?_)
  obtain ⟨rfl, J1, wa, rfl, hA1, hf1⟩ := hv
  refine a_l0 rfl rfl rfl ?_
  refine a_gets rfl (inC4 (i := 193) rfl rfl) (hw.st (i := 4) (by decide)) ?_
  refine a_s rfl rfl ?_
  refine a_l0 rfl rfl rfl ?_
  refine a_getq rfl gfX6_16_6 rfl (rfl) ?_
  refine a_getiv (v := nI (pn W)) rfl gfX6_35_5 rfl ((Sd.fd (Sd.nx hD hf1) (f := 0) (g := 0) (by decide)).trans hW.2.2.1) ?_
  refine a_s rfl rfl ?_
  refine a_s rfl rfl ?_
  refine a_top (y := W 0 - 1) (by rw [hW.2.2.1]) ?_
  refine a_gV rfl lX6_71 mo_X6_readNumberOf (s_readNumberOf (k := 4) (lo := 0) (hi := W 0 - 1) hw hA1 (by decide) (by decide)) rfl rfl rfl ⟨6, _, rfl, rfl, rfl⟩ rfl (fun v' h' hv => ?_)
  obtain ⟨rfl, J2, wb, rfl, hA2, hf2⟩ := hv
  have F2 : Fm sO I J2 := Fms (Fms Fm.rf hf1) hf2
  generalize nbP T e 4 0 (W 0 - 1) (nx T e b) = x at hA2 ⊢
  refine a_s1 rfl rfl rfl rfl rfl rfl ?_
  refine a_l1 rfl rfl rfl ?_
  refine a_s rfl rfl ?_
  refine a_ic_ne rfl (fun c1 => ?_) (fun c1 => ?_)
  rotate_left
  · refine a_s rfl rfl ?_
    rw [show duA T e W x = (false, x.2, W) from if_pos c1]
    exact a_zret rfl rfl rfl (QLs.no F2 hA2 (Dk.nx (Dk.nx (Dk.sd hD hW) hf1) hf2))
  rw [show duA T e W x = duB T e W x.1 (nbP T e 5 1 99 x.2) from if_neg c1]
  refine a_l0 rfl rfl rfl ?_
  refine a_gets rfl (inC4 (i := 195) rfl rfl) (hw.st (i := 5) (by decide)) ?_
  refine a_s rfl rfl ?_
  refine a_s rfl rfl ?_
  refine a_gV rfl lX6_71 mo_X6_readNumberOf (s_readNumberOf (k := 5) (lo := 1) (hi := 99) hw hA2 (by decide) (by decide)) rfl rfl rfl ⟨6, _, rfl, rfl, rfl⟩ rfl (fun v' h' hv => ?_)
  obtain ⟨rfl, J3, wc, rfl, hA3, hf3⟩ := hv
  have F3 : Fm sO I J3 := Fms F2 hf3
  have D3 : Sd J3 209 W := Sd.nx (Sd.nx (Sd.nx hD hf1) hf2) hf3
  generalize nbP T e 5 1 99 x.2 = y at hA3 ⊢
  refine a_s2 rfl rfl rfl rfl rfl rfl ?_
  refine a_l2 rfl rfl rfl ?_
  refine a_s rfl rfl ?_
  refine a_ic_ne rfl (fun c2 => ?_) (fun c2 => ?_)
  rotate_left
  · refine a_s rfl rfl ?_
    rw [show duB T e W x.1 y = (false, y.2, W) from if_pos c2]
    exact a_zret rfl rfl rfl (QLs.no F3 hA3 (Dk.sd D3 hW))
  rw [show duB T e W x.1 y = duC T e W x.1 y.1 (optP T e 6 0 99 0 y.2) from if_neg c2]
  exact s_du50 hw hW h12 F3 hA3 D3
theorem waitF_out {nd : Nat} {st : Nat → Int32} {v : Int32} (hn : nd ≤ 12) (h : ¬ (0 ≤ v ∧ v ≤ nI nd - 1)) : waitF nd st v = false := by
  refine decide_eq_false fun z => h ?_
  obtain ⟨z1, z2, -⟩ := z
  have z1 := Int32.not_lt.mp z1
  refine ⟨z1, ?_⟩
  have z2 := Int32.not_le.mp z2
  rcases nd with _ | n
  · exact absurd (Int32.lt_of_le_of_lt z1 z2) (by decide)
  · rw [nI_dec, Int32.le_iff_toInt_le, nI_toInt (by omega)]
    rw [Int32.lt_iff_toInt_lt, nI_toInt (by omega)] at z2
    omega
theorem s_readForgotten (hw : WdS S) (h : Ats T e b w1 I) (hD : Sd I 209 W) (hW : WOk W) : Sp S m_X6_readForgotten 16 0 0 [.ref 203] (hp I L w1 w2 t) (QLs T e (forP T e b W) I L w2 t) nX := by
  have hnd : I 209 3 = nI (dn W) := (Sd.fd hD (f := 3) (g := 1) (by decide)).trans hW.2.2.2
  have h12 := hW.2.1
  have k4 := kd_4 (T := T) (e := e) (b := b) rfl
  refine Sp_of ok_X6_readForgotten rfl rfl ?_
  show AW S m_X6_readForgotten 16 _ _ 0 0 0 [some (.ref 203)] [] (hp I L w1 w2 t)
  refine a_l0 rfl rfl rfl ?_
  refine a_getq rfl gfX6_20_6 rfl (rfl) ?_
  refine a_getiv (v := nI (kd T e b)) rfl gfX6_101_9 rfl (Ats.ki h) ?_
  refine a_s rfl rfl ?_
  have no : forP T e b W = (false, b, W) → AW S m_X6_readForgotten 16 (QLs T e (forP T e b W) I L w2 t) nX 0 0 28 [some (.ref 203)] [] (hp I L w1 w2 t) := fun ef => by
    rw [ef]
    refine a_s rfl rfl ?_
    exact a_zret rfl rfl rfl (QLs.no Fm.rf h (Dk.sd hD hW))
  refine a_ic_ne rfl (fun c => ?_) (fun c => ?_)
  · exact no (if_pos (if_neg fun z => c (congrArg nI z.1)))
  have hk : kd T e b = 2 := nI_inj (by omega) (by decide) c
  refine a_l0 rfl rfl rfl ?_
  refine a_getq rfl gfX6_16_6 rfl (rfl) ?_
  refine a_l0 rfl rfl rfl ?_
  refine a_getq rfl gfX6_20_6 rfl (rfl) ?_
  refine a_getiv (v := vl T e b) rfl gfX6_104_9 rfl (Ats.va h) ?_
  refine a_eV1 rfl lX6_107 mo_X5_isWaiting (sp_X5_isWaiting (a := 209) (by decide) hnd h12) rfl rfl rfl ⟨5, _, rfl, rfl, rfl⟩ rfl ?_
  by_cases cn : nm T e b 0 (W 1 - 1) = -1
  · have cw : waitF (dn W) (I (209 + 8)) (vl T e b) = false := waitF_out h12 fun z => by
      rw [← hW.2.2.2] at z
      have e9 : nm T e b 0 (W 1 - 1) = vl T e b := if_pos ⟨hk, z⟩
      rw [← e9, cn] at z
      exact absurd z.1 (by decide)
    rw [cw]
    refine a_if_ne rfl (fun z => absurd rfl z) (fun _ => ?_)
    exact no (if_pos cn)
  · obtain ⟨j, hj, ej⟩ := nm_ix h12 (by rw [← hW.2.2.2]; exact cn)
    rw [← hW.2.2.2] at ej
    have ev : vl T e b = nI j := (nm_in cn).2.2.2.symm.trans ej
    have es : I (209 + 8) j = W (23 + 6 * j + 5) := hD.2.2 j (by omega) 5 (by decide)
    rw [show waitF (dn W) (I (209 + 8)) (vl T e b) = decide (W (23 + 6 * j + 5) = 0) by rw [ev, waitF_nI hj h12, es]]
    by_cases cw : W (23 + 6 * j + 5) = 0
    · rw [decide_eq_true cw]
      refine a_if_ne rfl (fun _ => ?_) (fun z => absurd z (by decide))
      have ef : forP T e b W = (true, nx T e b, ud W (23 + 6 * j + 5) 2) := by
        unfold forP
        rw [if_neg cn, ej, nI_clamp (by omega), if_pos cw]
      rw [ef]
      refine a_l0 rfl rfl rfl ?_
      refine a_getq rfl gfX6_16_6 rfl (rfl) ?_
      refine a_getq rfl gfX6_111_5 rfl (rfl) ?_
      refine a_l0 rfl rfl rfl ?_
      refine a_getq rfl gfX6_20_6 rfl (rfl) ?_
      refine a_getiv (v := nI j) rfl gfX6_104_9 rfl ((Ats.va h).trans ev) ?_
      refine a_s rfl rfl ?_
      refine a_eSN0 rfl lX6_115 mo_X11_setAt (sp_X11_setAt rfl) rfl rfl rfl rfl ?_
      rw [setF_nI (show j < 12 by omega) (by decide)]
      refine a_l0 rfl rfl rfl ?_
      refine a_getq rfl gfX6_20_6 rfl (rfl) ?_
      refine a_gV rfl lX6_65 mo_X9_next (sg_next hw (Ats.eq (J := up2 I 217 j 2) h fun q g1 g2 => up2_row (by omega))) rfl rfl rfl ⟨9, _, rfl, rfl, rfl⟩ rfl (fun v' h' hv => ?_)
      obtain ⟨rfl, J, w, rfl, hA1, hf1⟩ := hv
      refine a_s rfl rfl ?_
      exact a_zret rfl rfl rfl (QLs.yes (Fms (Fm.up Fm.rf rfl) hf1) hA1 (Sd.nx (Sd.ro (k := 5) hD (by omega) (by decide)) hf1))
    · rw [decide_eq_false cw]
      refine a_if_ne rfl (fun z => absurd rfl z) (fun _ => ?_)
      refine no ?_
      unfold forP
      rw [if_neg cn, ej, nI_clamp (by omega), if_neg cw]
theorem s_readSetting (hw : WdS S) (h : Ats T e b w1 I) (hD : Sd I 209 W) (hW : WOk W) : Sp S m_X6_readSetting 16 0 0 [.ref 203] (hp I L w1 w2 t) (QLs T e (stgP T e b W) I L w2 t) nX := by
  refine Sp_of ok_X6_readSetting rfl rfl ?_
  show AW S m_X6_readSetting 16 _ _ 0 0 0 [some (.ref 203)] [] (hp I L w1 w2 t)
  unfold stgP
  refine a_l0 rfl rfl rfl ?_
  refine a_getq rfl gfX6_20_6 rfl (rfl) ?_
  refine a_getr rfl gfX6_24_9 rfl ?_
  refine a_pop1 (show _ = rv w1 :: _ from rfl) ?_
  refine a_gets rfl (inC4 (i := 219) rfl rfl) (hw.st (i := 10) (by decide)) ?_
  refine a_acmp_ne (rx := w1) (ry := 100 + 10 + 1) rfl ((Ats.wk h).ac hw) (WK.ck hw (i := 10) (by decide)) (fun c => ?_) (fun c => ?_)
  rotate_left
  · have d1 : isWd T e b 10 = true := (wr_is (by decide)).mp ((Ats.wo h).symm.trans c)
    rw [if_pos d1]
    refine a_l0 rfl rfl rfl ?_
    refine a_getq rfl gfX6_16_6 rfl (rfl) ?_
    refine a_l0 rfl rfl rfl ?_
    refine a_gets rfl (inC4 (i := 219) rfl rfl) (hw.st (i := 10) (by decide)) ?_
    refine a_s rfl rfl ?_
    refine a_s rfl rfl ?_
    refine a_gV rfl lX6_71 mo_X6_readNumberOf (s_readNumberOf (k := 10) (lo := 0) (hi := 100) hw h (by decide) (by decide)) rfl rfl rfl ⟨6, _, rfl, rfl, rfl⟩ rfl (fun v' h' hv => ?_)
    obtain ⟨rfl, J, w, rfl, hA, hf⟩ := hv
    rw [nbP_t d1] at hA ⊢
    by_cases cn : nm T e (nx T e b) 0 100 = -1
    · rw [if_pos cn] at hA ⊢
      refine a_puti rfl pfX6_122_5 rfl ?_
      refine a_l0 rfl rfl rfl ?_
      refine a_getq rfl gfX6_16_6 rfl (rfl) ?_
      refine a_getiv (v := (-1)) rfl gfX6_122_5 rfl (up2_at) ?_
      refine a_s rfl rfl ?_
      refine a_ic_eq rfl (fun _ => ?_) (fun z => absurd rfl z)
      refine a_s rfl rfl ?_
      rw [show setP T e (nx T e b) W 6 0 100 = (false, nx T e b, W) from if_pos cn]
      exact a_zret rfl rfl rfl (QLs.no (Fm.up (Fms Fm.rf hf) rfl) (Ats.eq hA fun q g1 g2 => up2_row (by omega)) (Dk.up (Dk.nx (Dk.sd hD hW) hf) (by decide)))
    · rw [if_neg cn] at hA ⊢
      refine a_puti rfl pfX6_122_5 rfl ?_
      refine a_l0 rfl rfl rfl ?_
      refine a_getq rfl gfX6_16_6 rfl (rfl) ?_
      refine a_getiv (v := nm T e (nx T e b) 0 100) rfl gfX6_122_5 rfl (up2_at) ?_
      refine a_s rfl rfl ?_
      refine a_ic_eq rfl (fun z => absurd z cn) (fun _ => ?_)
      refine a_s rfl rfl ?_
      refine a_goto rfl ?_
      rw [show setP T e (nx T e b) W 6 0 100 = (true, nx T e (nx T e b), ud W 6 (nm T e (nx T e b) 0 100)) from if_neg cn]
      exact a_zret rfl rfl rfl (QLs.yes (Fm.up (Fms Fm.rf hf) rfl) (Ats.eq hA fun q g1 g2 => up2_row (by omega)) (Sd.pu (f := 12) (g := 6) (Sd.nx hD hf) (by decide)))
  rw [if_neg (c := isWd T e b 10 = true) (fun z => c ((Ats.wo h).trans ((wr_is (by decide)).mpr z)))]
  refine a_l0 rfl rfl rfl ?_
  refine a_getq rfl gfX6_20_6 rfl (rfl) ?_
  refine a_getr rfl gfX6_24_9 rfl ?_
  refine a_pop1 (show _ = rv w1 :: _ from rfl) ?_
  refine a_gets rfl (inC4 (i := 221) rfl rfl) (hw.st (i := 11) (by decide)) ?_
  refine a_acmp_ne (rx := w1) (ry := 100 + 11 + 1) rfl ((Ats.wk h).ac hw) (WK.ck hw (i := 11) (by decide)) (fun c => ?_) (fun c => ?_)
  rotate_left
  · have d1 : isWd T e b 11 = true := (wr_is (by decide)).mp ((Ats.wo h).symm.trans c)
    rw [if_pos d1]
    refine a_l0 rfl rfl rfl ?_
    refine a_getq rfl gfX6_16_6 rfl (rfl) ?_
    refine a_l0 rfl rfl rfl ?_
    refine a_gets rfl (inC4 (i := 221) rfl rfl) (hw.st (i := 11) (by decide)) ?_
    refine a_s rfl rfl ?_
    refine a_s rfl rfl ?_
    refine a_gV rfl lX6_71 mo_X6_readNumberOf (s_readNumberOf (k := 11) (lo := 1) (hi := 9) hw h (by decide) (by decide)) rfl rfl rfl ⟨6, _, rfl, rfl, rfl⟩ rfl (fun v' h' hv => ?_)
    obtain ⟨rfl, J, w, rfl, hA, hf⟩ := hv
    rw [nbP_t d1] at hA ⊢
    by_cases cn : nm T e (nx T e b) 1 9 = -1
    · rw [if_pos cn] at hA ⊢
      refine a_puti rfl pfX6_128_5 rfl ?_
      refine a_l0 rfl rfl rfl ?_
      refine a_getq rfl gfX6_16_6 rfl (rfl) ?_
      refine a_getiv (v := (-1)) rfl gfX6_128_5 rfl (up2_at) ?_
      refine a_s rfl rfl ?_
      refine a_ic_eq rfl (fun _ => ?_) (fun z => absurd rfl z)
      refine a_s rfl rfl ?_
      rw [show setP T e (nx T e b) W 7 1 9 = (false, nx T e b, W) from if_pos cn]
      exact a_zret rfl rfl rfl (QLs.no (Fm.up (Fms Fm.rf hf) rfl) (Ats.eq hA fun q g1 g2 => up2_row (by omega)) (Dk.up (Dk.nx (Dk.sd hD hW) hf) (by decide)))
    · rw [if_neg cn] at hA ⊢
      refine a_puti rfl pfX6_128_5 rfl ?_
      refine a_l0 rfl rfl rfl ?_
      refine a_getq rfl gfX6_16_6 rfl (rfl) ?_
      refine a_getiv (v := nm T e (nx T e b) 1 9) rfl gfX6_128_5 rfl (up2_at) ?_
      refine a_s rfl rfl ?_
      refine a_ic_eq rfl (fun z => absurd z cn) (fun _ => ?_)
      refine a_s rfl rfl ?_
      refine a_goto rfl ?_
      rw [show setP T e (nx T e b) W 7 1 9 = (true, nx T e (nx T e b), ud W 7 (nm T e (nx T e b) 1 9)) from if_neg cn]
      exact a_zret rfl rfl rfl (QLs.yes (Fm.up (Fms Fm.rf hf) rfl) (Ats.eq hA fun q g1 g2 => up2_row (by omega)) (Sd.pu (f := 13) (g := 7) (Sd.nx hD hf) (by decide)))
  rw [if_neg (c := isWd T e b 11 = true) (fun z => c ((Ats.wo h).trans ((wr_is (by decide)).mpr z)))]
  refine a_l0 rfl rfl rfl ?_
  refine a_getq rfl gfX6_20_6 rfl (rfl) ?_
  refine a_getr rfl gfX6_24_9 rfl ?_
  refine a_pop1 (show _ = rv w1 :: _ from rfl) ?_
  refine a_gets rfl (inC4 (i := 223) rfl rfl) (hw.st (i := 12) (by decide)) ?_
  refine a_acmp_ne (rx := w1) (ry := 100 + 12 + 1) rfl ((Ats.wk h).ac hw) (WK.ck hw (i := 12) (by decide)) (fun c => ?_) (fun c => ?_)
  rotate_left
  · have d1 : isWd T e b 12 = true := (wr_is (by decide)).mp ((Ats.wo h).symm.trans c)
    rw [if_pos d1]
    refine a_l0 rfl rfl rfl ?_
    refine a_getq rfl gfX6_16_6 rfl (rfl) ?_
    refine a_l0 rfl rfl rfl ?_
    refine a_gets rfl (inC4 (i := 223) rfl rfl) (hw.st (i := 12) (by decide)) ?_
    refine a_s rfl rfl ?_
    refine a_s rfl rfl ?_
    refine a_gV rfl lX6_71 mo_X6_readNumberOf (s_readNumberOf (k := 12) (lo := 0) (hi := 50) hw h (by decide) (by decide)) rfl rfl rfl ⟨6, _, rfl, rfl, rfl⟩ rfl (fun v' h' hv => ?_)
    obtain ⟨rfl, J, w, rfl, hA, hf⟩ := hv
    rw [nbP_t d1] at hA ⊢
    by_cases cn : nm T e (nx T e b) 0 50 = -1
    · rw [if_pos cn] at hA ⊢
      refine a_puti rfl pfX6_134_5 rfl ?_
      refine a_l0 rfl rfl rfl ?_
      refine a_getq rfl gfX6_16_6 rfl (rfl) ?_
      refine a_getiv (v := (-1)) rfl gfX6_134_5 rfl (up2_at) ?_
      refine a_s rfl rfl ?_
      refine a_ic_eq rfl (fun _ => ?_) (fun z => absurd rfl z)
      refine a_s rfl rfl ?_
      rw [show setP T e (nx T e b) W 8 0 50 = (false, nx T e b, W) from if_pos cn]
      exact a_zret rfl rfl rfl (QLs.no (Fm.up (Fms Fm.rf hf) rfl) (Ats.eq hA fun q g1 g2 => up2_row (by omega)) (Dk.up (Dk.nx (Dk.sd hD hW) hf) (by decide)))
    · rw [if_neg cn] at hA ⊢
      refine a_puti rfl pfX6_134_5 rfl ?_
      refine a_l0 rfl rfl rfl ?_
      refine a_getq rfl gfX6_16_6 rfl (rfl) ?_
      refine a_getiv (v := nm T e (nx T e b) 0 50) rfl gfX6_134_5 rfl (up2_at) ?_
      refine a_s rfl rfl ?_
      refine a_ic_eq rfl (fun z => absurd z cn) (fun _ => ?_)
      refine a_s rfl rfl ?_
      refine a_goto rfl ?_
      rw [show setP T e (nx T e b) W 8 0 50 = (true, nx T e (nx T e b), ud W 8 (nm T e (nx T e b) 0 50)) from if_neg cn]
      exact a_zret rfl rfl rfl (QLs.yes (Fm.up (Fms Fm.rf hf) rfl) (Ats.eq hA fun q g1 g2 => up2_row (by omega)) (Sd.pu (f := 14) (g := 8) (Sd.nx hD hf) (by decide)))
  rw [if_neg (c := isWd T e b 12 = true) (fun z => c ((Ats.wo h).trans ((wr_is (by decide)).mpr z)))]
  refine a_l0 rfl rfl rfl ?_
  refine a_getq rfl gfX6_20_6 rfl (rfl) ?_
  refine a_getr rfl gfX6_24_9 rfl ?_
  refine a_pop1 (show _ = rv w1 :: _ from rfl) ?_
  refine a_gets rfl (inC4 (i := 225) rfl rfl) (hw.st (i := 13) (by decide)) ?_
  refine a_acmp_ne (rx := w1) (ry := 100 + 13 + 1) rfl ((Ats.wk h).ac hw) (WK.ck hw (i := 13) (by decide)) (fun c => ?_) (fun c => ?_)
  rotate_left
  · have d1 : isWd T e b 13 = true := (wr_is (by decide)).mp ((Ats.wo h).symm.trans c)
    rw [if_pos d1]
    refine a_l0 rfl rfl rfl ?_
    refine a_getq rfl gfX6_16_6 rfl (rfl) ?_
    refine a_l0 rfl rfl rfl ?_
    refine a_gets rfl (inC4 (i := 225) rfl rfl) (hw.st (i := 13) (by decide)) ?_
    refine a_s rfl rfl ?_
    refine a_s rfl rfl ?_
    refine a_gV rfl lX6_71 mo_X6_readNumberOf (s_readNumberOf (k := 13) (lo := 1) (hi := 30) hw h (by decide) (by decide)) rfl rfl rfl ⟨6, _, rfl, rfl, rfl⟩ rfl (fun v' h' hv => ?_)
    obtain ⟨rfl, J, w, rfl, hA, hf⟩ := hv
    rw [nbP_t d1] at hA ⊢
    by_cases cn : nm T e (nx T e b) 1 30 = -1
    · rw [if_pos cn] at hA ⊢
      refine a_puti rfl pfX6_140_5 rfl ?_
      refine a_l0 rfl rfl rfl ?_
      refine a_getq rfl gfX6_16_6 rfl (rfl) ?_
      refine a_getiv (v := (-1)) rfl gfX6_140_5 rfl (up2_at) ?_
      refine a_s rfl rfl ?_
      refine a_ic_eq rfl (fun _ => ?_) (fun z => absurd rfl z)
      refine a_s rfl rfl ?_
      rw [show setP T e (nx T e b) W 4 1 30 = (false, nx T e b, W) from if_pos cn]
      exact a_zret rfl rfl rfl (QLs.no (Fm.up (Fms Fm.rf hf) rfl) (Ats.eq hA fun q g1 g2 => up2_row (by omega)) (Dk.up (Dk.nx (Dk.sd hD hW) hf) (by decide)))
    · rw [if_neg cn] at hA ⊢
      refine a_puti rfl pfX6_140_5 rfl ?_
      refine a_l0 rfl rfl rfl ?_
      refine a_getq rfl gfX6_16_6 rfl (rfl) ?_
      refine a_getiv (v := nm T e (nx T e b) 1 30) rfl gfX6_140_5 rfl (up2_at) ?_
      refine a_s rfl rfl ?_
      refine a_ic_eq rfl (fun z => absurd z cn) (fun _ => ?_)
      refine a_s rfl rfl ?_
      refine a_goto rfl ?_
      rw [show setP T e (nx T e b) W 4 1 30 = (true, nx T e (nx T e b), ud W 4 (nm T e (nx T e b) 1 30)) from if_neg cn]
      exact a_zret rfl rfl rfl (QLs.yes (Fm.up (Fms Fm.rf hf) rfl) (Ats.eq hA fun q g1 g2 => up2_row (by omega)) (Sd.pu (f := 10) (g := 4) (Sd.nx hD hf) (by decide)))
  rw [if_neg (c := isWd T e b 13 = true) (fun z => c ((Ats.wo h).trans ((wr_is (by decide)).mpr z)))]
  cases d1 : isWd T e b 14 with
  | true =>
    rw [if_pos rfl]
    refine a_l0 rfl rfl rfl ?_
    refine a_getq rfl gfX6_16_6 rfl (rfl) ?_
    refine a_l0 rfl rfl rfl ?_
    refine a_gets rfl (inC4 (i := 227) rfl rfl) (hw.st (i := 14) (by decide)) ?_
    refine a_s rfl rfl ?_
    refine a_s rfl rfl ?_
    refine a_gV rfl lX6_71 mo_X6_readNumberOf (s_readNumberOf (k := 14) (lo := 0) (hi := 999) hw h (by decide) (by decide)) rfl rfl rfl ⟨6, _, rfl, rfl, rfl⟩ rfl (fun v' h' hv => ?_)
    obtain ⟨rfl, J, w, rfl, hA, hf⟩ := hv
    rw [nbP_t d1] at hA ⊢
    by_cases cn : nm T e (nx T e b) 0 999 = -1
    · rw [if_pos cn] at hA ⊢
      refine a_puti rfl pfX6_146_5 rfl ?_
      refine a_l0 rfl rfl rfl ?_
      refine a_getq rfl gfX6_16_6 rfl (rfl) ?_
      refine a_getiv (v := (-1)) rfl gfX6_146_5 rfl (up2_at) ?_
      refine a_s rfl rfl ?_
      refine a_ic_eq rfl (fun _ => ?_) (fun z => absurd rfl z)
      refine a_s rfl rfl ?_
      rw [show setP T e (nx T e b) W 5 0 999 = (false, nx T e b, W) from if_pos cn]
      exact a_zret rfl rfl rfl (QLs.no (Fm.up (Fms Fm.rf hf) rfl) (Ats.eq hA fun q g1 g2 => up2_row (by omega)) (Dk.up (Dk.nx (Dk.sd hD hW) hf) (by decide)))
    · rw [if_neg cn] at hA ⊢
      refine a_puti rfl pfX6_146_5 rfl ?_
      refine a_l0 rfl rfl rfl ?_
      refine a_getq rfl gfX6_16_6 rfl (rfl) ?_
      refine a_getiv (v := nm T e (nx T e b) 0 999) rfl gfX6_146_5 rfl (up2_at) ?_
      refine a_s rfl rfl ?_
      refine a_ic_eq rfl (fun z => absurd z cn) (fun _ => ?_)
      refine a_s rfl rfl ?_
      refine a_goto rfl ?_
      rw [show setP T e (nx T e b) W 5 0 999 = (true, nx T e (nx T e b), ud W 5 (nm T e (nx T e b) 0 999)) from if_neg cn]
      exact a_zret rfl rfl rfl (QLs.yes (Fm.up (Fms Fm.rf hf) rfl) (Ats.eq hA fun q g1 g2 => up2_row (by omega)) (Sd.pu (f := 11) (g := 5) (Sd.nx hD hf) (by decide)))
  | false =>
    rw [if_neg Bool.false_ne_true]
    refine a_l0 rfl rfl rfl ?_
    refine a_getq rfl gfX6_16_6 rfl (rfl) ?_
    refine a_l0 rfl rfl rfl ?_
    refine a_gets rfl (inC4 (i := 227) rfl rfl) (hw.st (i := 14) (by decide)) ?_
    refine a_s rfl rfl ?_
    refine a_s rfl rfl ?_
    refine a_gV rfl lX6_71 mo_X6_readNumberOf (s_readNumberOf (k := 14) (lo := 0) (hi := 999) hw h (by decide) (by decide)) rfl rfl rfl ⟨6, _, rfl, rfl, rfl⟩ rfl (fun v' h' hv => ?_)
    obtain ⟨rfl, J, w, rfl, hA, hf⟩ := hv
    rw [nbP_f d1] at hA ⊢
    refine a_puti rfl pfX6_146_5 rfl ?_
    refine a_l0 rfl rfl rfl ?_
    refine a_getq rfl gfX6_16_6 rfl (rfl) ?_
    refine a_getiv (v := (-1)) rfl gfX6_146_5 rfl (up2_at) ?_
    refine a_s rfl rfl ?_
    refine a_ic_eq rfl (fun _ => ?_) (fun z => absurd rfl z)
    refine a_s rfl rfl ?_
    exact a_zret rfl rfl rfl (QLs.no (Fm.up (Fms Fm.rf hf) rfl) (Ats.eq hA fun q g1 g2 => up2_row (by omega)) (Dk.up (Dk.nx (Dk.sd hD hW) hf) (by decide)))
theorem s_readLine (hw : WdS S) (h : Ats T e b w1 I) (hD : Sd I 209 W) (hW : WOk W) : Sp S m_X6_readLine 18 0 0 [.ref 203] (hp I L w1 w2 t) (QLs T e (linP T e b W) I L w2 t) nX := by
  have hp6 := hW.1
  have hd12 := hW.2.1
  refine Sp_of ok_X6_readLine rfl rfl ?_
  show AW S m_X6_readLine 18 _ _ 0 0 0 [some (.ref 203)] [] (hp I L w1 w2 t)
  refine a_l0 rfl rfl rfl ?_
  refine a_getq rfl gfX6_20_6 rfl (rfl) ?_
  refine a_getr rfl gfX6_24_9 rfl ?_
  refine a_pop1 (show _ = rv w1 :: _ from rfl) ?_
  refine a_gets rfl (inC4 (i := 166) rfl rfl) (hw.st (i := 0) (by decide)) ?_
  refine a_acmp_ne (rx := w1) (ry := 100 + 0 + 1) rfl ((Ats.wk h).ac hw) (WK.ck hw (i := 0) (by decide)) (fun c => ?_) (fun c => ?_)
  rotate_left
  · have d1 : isWd T e b 0 = true := (wr_is (by decide)).mp ((Ats.wo h).symm.trans c)
    rw [show linP T e b W = perP T e b W from if_pos d1]
    refine a_l0 rfl rfl rfl ?_
    refine a_getq rfl gfX6_16_6 rfl (rfl) ?_
    refine a_getiv (v := nI (pn W)) rfl gfX6_35_5 rfl ((Sd.fd hD (f := 0) (g := 0) (by decide)).trans hW.2.2.1) ?_
    refine a_s rfl rfl ?_
    refine a_ic_ge rfl (fun c6 => ?_) (fun c6 => ?_)
    · have c6 := nI_ge_of (b := 6) c6 (by omega) (by decide)
      rw [show perP T e b W = (false, b, W) from if_pos (by rw [hW.2.2.1, show pn W = 6 by omega]; rfl)]
      refine a_s rfl rfl ?_
      exact a_zret rfl rfl rfl (QLs.no Fm.rf h (Dk.sd hD hW))
    have c6 := nI_lt_of (b := 6) c6 (by omega) (by decide)
    have h6 : ¬ W 0 = 6 := fun z => by
      rw [hW.2.2.1] at z
      have := nI_inj (b := 6) (by omega) (by decide) z
      omega
    rw [show perP T e b W = perB T e W (nbP T e 1 0 15 (nx T e b)) from if_neg h6]
    refine a_l0 rfl rfl rfl ?_
    refine a_gV rfl lX6_39 mo_X6_readPerson (s_readPerson hw h hD hW h6) rfl rfl rfl ⟨6, _, rfl, rfl, rfl⟩ rfl (fun v' h' hv => ?_)
    obtain ⟨rfl, J, w, rfl, F, hA, hk, hz⟩ := hv
    generalize perB T e W (nbP T e 1 0 15 (nx T e b)) = r at hA hk hz ⊢
    obtain ⟨z, p, W'⟩ := r
    cases z with
    | false =>
      refine a_if_eq rfl (fun _ => ?_) (fun z => absurd rfl z)
      refine a_s rfl rfl ?_
      exact a_zret rfl rfl rfl ⟨rfl, J, w, rfl, F, hA, hk, hz⟩
    | true =>
      refine a_if_eq rfl (fun z => absurd (show (1 : Int32) = 0 from z) (by decide)) (fun _ => ?_)
      refine a_s rfl rfl ?_
      refine a_goto rfl ?_
      exact a_zret rfl rfl rfl ⟨rfl, J, w, rfl, F, hA, hk, hz⟩
  have n0 : ¬ isWd T e b 0 = true := fun z => c ((Ats.wo h).trans ((wr_is (by decide)).mpr z))
  clear c
  refine a_l0 rfl rfl rfl ?_
  refine a_getq rfl gfX6_20_6 rfl (rfl) ?_
  refine a_getr rfl gfX6_24_9 rfl ?_
  refine a_pop1 (show _ = rv w1 :: _ from rfl) ?_
  refine a_gets rfl (inC4 (i := 187) rfl rfl) (hw.st (i := 3) (by decide)) ?_
  refine a_acmp_ne (rx := w1) (ry := 100 + 3 + 1) rfl ((Ats.wk h).ac hw) (WK.ck hw (i := 3) (by decide)) (fun c => ?_) (fun c => ?_)
  rotate_left
  · have d1 : isWd T e b 3 = true := (wr_is (by decide)).mp ((Ats.wo h).symm.trans c)
    rw [show linP T e b W = dutP T e b W from (if_neg n0).trans (if_pos d1)]
    refine a_l0 rfl rfl rfl ?_
    refine a_getq rfl gfX6_16_6 rfl (rfl) ?_
    refine a_getiv (v := nI (dn W)) rfl gfX6_46_5 rfl ((Sd.fd hD (f := 3) (g := 1) (by decide)).trans hW.2.2.2) ?_
    refine a_s rfl rfl ?_
    refine a_ic_ge rfl (fun c6 => ?_) (fun c6 => ?_)
    · have c6 := nI_ge_of (b := 12) c6 (by omega) (by decide)
      rw [show dutP T e b W = (false, b, W) from if_pos (by rw [hW.2.2.2, show dn W = 12 by omega]; rfl)]
      refine a_s rfl rfl ?_
      exact a_zret rfl rfl rfl (QLs.no Fm.rf h (Dk.sd hD hW))
    have c6 := nI_lt_of (b := 12) c6 (by omega) (by decide)
    have h6 : ¬ W 1 = 12 := fun z => by
      rw [hW.2.2.2] at z
      have := nI_inj (b := 12) (by omega) (by decide) z
      omega
    rw [show dutP T e b W = duA T e W (nbP T e 4 0 (W 0 - 1) (nx T e b)) from if_neg h6]
    refine a_l0 rfl rfl rfl ?_
    refine a_gV rfl lX6_49 mo_X6_readDuty (s_readDuty hw h hD hW h6) rfl rfl rfl ⟨6, _, rfl, rfl, rfl⟩ rfl (fun v' h' hv => ?_)
    obtain ⟨rfl, J, w, rfl, F, hA, hk, hz⟩ := hv
    generalize duA T e W (nbP T e 4 0 (W 0 - 1) (nx T e b)) = r at hA hk hz ⊢
    obtain ⟨z, p, W'⟩ := r
    cases z with
    | false =>
      refine a_if_eq rfl (fun _ => ?_) (fun z => absurd rfl z)
      refine a_s rfl rfl ?_
      exact a_zret rfl rfl rfl ⟨rfl, J, w, rfl, F, hA, hk, hz⟩
    | true =>
      refine a_if_eq rfl (fun z => absurd (show (1 : Int32) = 0 from z) (by decide)) (fun _ => ?_)
      refine a_s rfl rfl ?_
      refine a_goto rfl ?_
      exact a_zret rfl rfl rfl ⟨rfl, J, w, rfl, F, hA, hk, hz⟩
  have n3 : ¬ isWd T e b 3 = true := fun z => c ((Ats.wo h).trans ((wr_is (by decide)).mpr z))
  clear c
  refine a_l0 rfl rfl rfl ?_
  refine a_getq rfl gfX6_20_6 rfl (rfl) ?_
  refine a_gets rfl (inC4 (i := 207) rfl rfl) (hw.st (i := 9) (by decide)) ?_
  refine a_gV rfl lX6_55 mo_X9_takeWord (s_takeWord (k := 9) hw h (by decide)) rfl rfl rfl ⟨9, _, rfl, rfl, rfl⟩ rfl (fun v' h' hv => ?_)
  obtain ⟨rfl, J, w, rfl, hA, hf⟩ := hv
  cases c9 : isWd T e b 9 with
  | true =>
    rw [c9, if_pos rfl] at hA
    refine a_if_eq rfl (fun z => absurd z (by decide)) (fun _ => ?_)
    rw [show linP T e b W = forP T e (nx T e b) W from (if_neg n0).trans ((if_neg n3).trans (if_pos c9))]
    refine a_l0 rfl rfl rfl ?_
    refine a_gV rfl lX6_59 mo_X6_readForgotten (s_readForgotten hw hA (Sd.nx hD hf) hW) rfl rfl rfl ⟨6, _, rfl, rfl, rfl⟩ rfl (fun v' h' hv => ?_)
    obtain ⟨rfl, J2, w3, rfl, F, hA2, hk, hz⟩ := hv
    exact a_zret rfl rfl (bI_nar _) ⟨rfl, J2, w3, rfl, Fm.tr (Fms Fm.rf hf) F, hA2, hk, hz⟩
  | false =>
    rw [c9, if_neg Bool.false_ne_true] at hA
    refine a_if_eq rfl (fun _ => ?_) (fun z => absurd rfl z)
    rw [show linP T e b W = stgP T e b W from (if_neg n0).trans ((if_neg n3).trans (if_neg (by rw [c9]; exact Bool.false_ne_true)))]
    refine a_l0 rfl rfl rfl ?_
    refine a_gV rfl lX6_62 mo_X6_readSetting (s_readSetting hw hA (Sd.nx hD hf) hW) rfl rfl rfl ⟨6, _, rfl, rfl, rfl⟩ rfl (fun v' h' hv => ?_)
    obtain ⟨rfl, J2, w3, rfl, F, hA2, hk, hz⟩ := hv
    exact a_zret rfl rfl (bI_nar _) ⟨rfl, J2, w3, rfl, Fm.tr (Fms Fm.rf hf) F, hA2, hk, hz⟩
theorem s_readLines (hw : WdS S) (he : I 201 1 = nI e) (h4 : e ≤ 400) (hbt : BtT (I 202)) (hm0 : I 203 1 = 14) (hD : Sd I 209 W) (hW : WOk W) : Sp S m_X8_readLines 20 0 0 [.ref 203, .ref 201] (hp I L w1 w2 t) (fun v h' => v = some (.int (if (strP (I 202) e W).1 = true then -1 else nI (strP (I 202) e W).2.1)) ∧ ∃ J w, h' = hp J L w w2 t ∧ WK w ∧ (strP (I 202) e W).2.1 ≤ e ∧ Fm sO I J ∧ ((strP (I 202) e W).1 = false → Dk J) ∧ ((strP (I 202) e W).1 = true → Sd J 209 (strP (I 202) e W).2.2)) nX := by
  refine Sp_of ok_X8_readLines rfl rfl ?_
  show AW S m_X8_readLines 20 _ _ 0 0 0 [some (.ref 203), some (.ref 201), none] [] (hp I L w1 w2 t)
  generalize hT : I 202 = T at hbt ⊢
  refine a_l0 rfl rfl rfl ?_
  refine a_getq rfl gfX8_12_6 rfl (rfl) ?_
  refine a_l1 rfl rfl rfl ?_
  refine a_gV rfl lX8_22 mo_X9_scan (s_scan hw he h4 (by rw [hT]; exact hbt)) rfl rfl rfl ⟨9, _, rfl, rfl, rfl⟩ rfl (fun v' h' hv => ?_)
  obtain ⟨rfl, J1, wa, rfl, hA1, hf1⟩ := hv
  rw [hT] at hA1
  have hF1 : Fm sO I J1 := Fms.d Fm.rf hf1
  have hD1 : Sd J1 209 W := Sd.eq hD fun q g1 g2 => hf1 q (by omega)
  refine a_l0 rfl rfl rfl ?_
  refine a_getq rfl gfX8_12_6 rfl (rfl) ?_
  refine a_eV1 rfl lX8_26 mo_X9_isEnd (s_isEnd hA1) rfl rfl rfl ⟨9, _, rfl, rfl, rfl⟩ rfl ?_
  by_cases c0 : bg T e 0 < e
  rotate_left
  · rw [show decide (¬ bg T e 0 < e) = true from decide_eq_true c0]
    refine a_if_eq rfl (fun z => absurd z (by decide)) (fun _ => ?_)
    have el : strP T e W = (true, bg T e 0, W) := if_neg c0
    rw [el, if_pos rfl]
    refine a_s rfl rfl ?_
    exact a_iret rfl rfl ⟨rfl, J1, wa, rfl, Ats.wk hA1, Ats.le hA1, hF1, fun z => (by cases z), fun _ => hD1⟩
  rw [show decide (¬ bg T e 0 < e) = false from decide_eq_false (fun z => z c0)]
  refine a_if_eq rfl (fun _ => ?_) (fun z => absurd rfl z)
  refine a_s rfl rfl ?_
  refine a_s2 rfl rfl rfl rfl rfl rfl ?_
  refine a_inv (n := 14) (fun m ls h => ∃ i b' w' W' J, ls = [some (.ref 203), some (.ref 201), some (.int (nI i))] ∧ h = hp J L w' w2 t ∧ Ats T e b' w' J ∧ Sd J 209 W' ∧ WOk W' ∧ Fm sO I J ∧ i ≤ 14 ∧ strsP T e (14 - i) b' W' = strP T e W ∧ m = 14 - i) ⟨0, bg T e 0, wa, W, J1, rfl, rfl, hA1, hD1, hW, hF1, by decide, (if_pos c0).symm, rfl⟩ ?_
  rintro m _ _ ⟨i, b', w', W', J, rfl, rfl, hA, hD', hW', hF, hi, es, hm⟩ ih
  refine a_l2 rfl rfl rfl ?_
  refine a_l0 rfl rfl rfl ?_
  refine a_getiv (v := 14) rfl gfX8_18_6 rfl ((hF 203 1 rfl).trans hm0) ?_
  refine a_ic_ge rfl (fun c => ?_) (fun c => ?_)
  · have h12 := nI_ge_of (b := 14) c (by omega) (by decide)
    obtain rfl : i = 14 := by omega
    have es : strP T e W = (false, b', W') := es.symm
    rw [es, if_neg Bool.false_ne_true]
    refine a_l0 rfl rfl rfl ?_
    refine a_getq rfl gfX8_12_6 rfl (rfl) ?_
    refine a_getiv (v := nI b') rfl gfX8_33_9 rfl (Ats.be hA) ?_
    exact a_iret rfl rfl ⟨rfl, J, w', rfl, Ats.wk hA, Ats.le hA, hF, fun _ => Dk.sd hD' hW', fun z => by cases z⟩
  have hi12 : i < 14 := nI_lt_of (b := 14) c (by omega) (by decide)
  obtain ⟨f, hf⟩ : ∃ f, 14 - i = f + 1 := ⟨14 - i - 1, by omega⟩
  rw [hf, strsP_s] at es
  have lok := linP_ok (T := T) (e := e) (b := b') hW'
  refine a_l0 rfl rfl rfl ?_
  refine a_callU rfl lu_30_6 dc_readLine mo_X6_readLine hx_rl0 (s_readLine hw hA hD' hW') rfl rfl rfl ⟨6, _, rfl, rfl, rfl⟩ rfl (fun v' h' hv => ?_) (fun _ _ z => False.elim z)
  obtain ⟨rfl, J2, wb, rfl, f2, hA2, hk2, hz2⟩ := hv
  have hF2 : Fm sO I J2 := Fm.tr hF f2
  generalize linP T e b' W' = r at es hA2 hk2 hz2 lok ⊢
  obtain ⟨z, b1, W1⟩ := r
  cases z with
  | false =>
    refine a_if_ne rfl (fun z => absurd rfl z) (fun _ => ?_)
    have es : strP T e W = (false, b1, W') := es.symm
    rw [es, if_neg Bool.false_ne_true]
    refine a_l0 rfl rfl rfl ?_
    refine a_getq rfl gfX8_12_6 rfl (rfl) ?_
    refine a_getiv (v := nI b1) rfl gfX8_33_9 rfl (Ats.be hA2) ?_
    exact a_iret rfl rfl ⟨rfl, J2, wb, rfl, Ats.wk hA2, Ats.le hA2, hF2, fun _ => hk2 rfl, fun z => by cases z⟩
  | true =>
  refine a_if_ne rfl (fun _ => ?_) (fun z => absurd (show (1 : Int32) = 0 from z) (by decide))
  have hD2 : Sd J2 209 W1 := hz2 rfl
  have hW2 : WOk W1 := lok rfl
  rw [if_pos rfl] at es
  refine a_l0 rfl rfl rfl ?_
  refine a_getq rfl gfX8_12_6 rfl (rfl) ?_
  refine a_eV1 rfl lX8_26 mo_X9_isEnd (s_isEnd hA2) rfl rfl rfl ⟨9, _, rfl, rfl, rfl⟩ rfl ?_
  by_cases c1 : b1 < e
  rotate_left
  · rw [show decide (¬ b1 < e) = true from decide_eq_true c1]
    refine a_if_eq rfl (fun z => absurd z (by decide)) (fun _ => ?_)
    have es : strP T e W = (true, b1, W1) := es.symm.trans (if_neg c1)
    rw [es, if_pos rfl]
    refine a_s rfl rfl ?_
    exact a_iret rfl rfl ⟨rfl, J2, wb, rfl, Ats.wk hA2, Ats.le hA2, hF2, fun z => (by cases z), fun _ => hD2⟩
  rw [show decide (¬ b1 < e) = false from decide_eq_false (fun z => z c1)]
  refine a_if_eq rfl (fun _ => ?_) (fun z => absurd rfl z)
  have es := (if_pos c1).symm.trans es
  refine a_l0 rfl rfl rfl ?_
  refine a_getq rfl gfX8_12_6 rfl (rfl) ?_
  refine a_s rfl rfl ?_
  refine a_gV rfl lX8_36 mo_X9_takeSign (s_takeSign hw hA2) rfl rfl rfl ⟨9, _, rfl, rfl, rfl⟩ rfl (fun v' h' hv => ?_)
  obtain ⟨rfl, J3, wc, rfl, hA3, hf3⟩ := hv
  have hF3 : Fm sO I J3 := Fms hF2 hf3
  cases c59 : sg T e b1 59 with
  | false =>
    rw [c59, if_neg Bool.false_ne_true] at hA3
    refine a_if_ne rfl (fun z => absurd rfl z) (fun _ => ?_)
    have es : strP T e W = (false, b1, W') := es.symm.trans (if_neg (by show ¬ sg T e b1 59 = true; rw [c59]; exact Bool.false_ne_true))
    rw [es, if_neg Bool.false_ne_true]
    refine a_l0 rfl rfl rfl ?_
    refine a_getq rfl gfX8_12_6 rfl (rfl) ?_
    refine a_getiv (v := nI b1) rfl gfX8_33_9 rfl (Ats.be hA3) ?_
    exact a_iret rfl rfl ⟨rfl, J3, wc, rfl, Ats.wk hA3, Ats.le hA3, hF3, fun _ => Dk.nx (Dk.sd hD2 hW2) hf3, fun z => by cases z⟩
  | true =>
    rw [c59, if_pos rfl] at hA3
    refine a_if_ne rfl (fun _ => ?_) (fun z => absurd z (by decide))
    have es := es.symm.trans (if_pos c59)
    refine a_iv2 (y := nI (i + 1)) rfl rfl rfl ((nI_succ i).symm) ?_
    refine a_goto rfl ?_
    exact ih (14 - (i + 1)) _ _ (by omega) ⟨i + 1, nx T e b1, wc, W1, J3, rfl, rfl, hA3, Sd.nx hD2 hf3, hW2, hF3, by omega, by rw [show 14 - (i + 1) = f by omega]; exact es.symm, rfl⟩
end T79n
end
section
/-! ===== the reference: a text of the street, as a function (printed by program) ===== -/
section T79o
variable {S : aS} {I : Nat → Nat → Int32} {L : Nat → Nat → Int64} {w1 w2 t : Nat} {e p b : Nat} {T W : Nat → Int32}
set_option maxRecDepth 100000
/-- from I to J: at p, what is next begins at b, the world is W -/
def Hf (T : Nat → Int32) (e b : Nat) (W : Nat → Int32) (I J : Nat → Nat → Int32) (p : Nat) : Prop := Fm sS I J ∧ Pp e p J ∧ rn T e 4 p = b ∧ J 421 = W
theorem Hf.pp {J : Nat → Nat → Int32} (h : Hf T e b W I J p) : Pp e p J := h.2.1
theorem Hf.nb {J : Nat → Nat → Int32} (h : Hf T e b W I J p) : rn T e 4 p = b := h.2.2.1
theorem Hf.wd {J : Nat → Nat → Int32} (h : Hf T e b W I J p) : J 421 = W := h.2.2.2
theorem Hf.tt {J : Nat → Nat → Int32} (h : Hf T e b W I J p) (hT : I 426 = T) : J 426 = T := (funext fun k => h.1 426 k rfl).trans hT
theorem Hf.sk {J : Nat → Nat → Int32} (h : Hf T e b W I J p) : rn T e 4 b = b := by
  rw [← Hf.nb h]
  exact rn_rn
theorem Hf.le {J : Nat → Nat → Int32} (h : Hf T e b W I J p) : b ≤ e := by
  rw [← Hf.nb h]
  exact rn_le (Pp.le (Hf.pp h))
theorem Hf.rd {J K : Nat → Nat → Int32} {b2 p' b' : Nat} (h : Hf T e b W I J p) (r : Rd e p b2 p' J K) (hb : rn T e 4 p' = b') : Hf T e b' W I K p' := ⟨Fm.tr h.1 (Fm.mo (Rd.fm r) sR_sS), Rd.pp r, hb, (Rd.w r).trans h.2.2.2⟩
theorem Hf.ot {J K : Nat → Nat → Int32} {p' b' : Nat} (h : Hf T e b W I J p) (f : Fm sR J K) (hq : Pp e p' K) (hb : rn T e 4 p' = b') : Hf T e b' W I K p' := ⟨Fm.tr h.1 (Fm.mo f sR_sS), hq, hb, (funext fun k => f 421 k rfl).trans h.2.2.2⟩
def QH (T : Nat → Int32) (e : Nat) (r : SR) (I : Nat → Nat → Int32) (L : Nat → Nat → Int64) (w1 w2 t : Nat) : Option Value → aH → Prop := fun v h' => v = some (.int (bI r.1)) ∧ ∃ J p, h' = hp J L w1 w2 t ∧ (r.1 = true → Hf T e r.2.1 r.2.2 I J p) ∧ (r.1 = false → Fm sS I J ∧ J 420 12 = nI r.2.1)
theorem QH.yes {J : Nat → Nat → Int32} (h : Hf T e b W I J p) : QH T e (true, b, W) I L w1 w2 t (some (.int 1)) (hp J L w1 w2 t) := ⟨rfl, J, p, rfl, fun _ => h, fun z => by cases z⟩
theorem QH.no {J : Nat → Nat → Int32} (f : Fm sS I J) (hb : J 420 12 = nI b) : QH T e (false, b, W) I L w1 w2 t (some (.int 0)) (hp J L w1 w2 t) := ⟨rfl, J, 0, rfl, fun z => (by cases z), fun _ => ⟨f, hb⟩⟩
theorem QH.be {J : Nat → Nat → Int32} {r : SR} {v : Option Value} {h' : aH} (f : Fm sS I J) (h : QH T e r J L w1 w2 t v h') : QH T e r I L w1 w2 t v h' := by
  obtain ⟨e1, K, p', e2, y, n⟩ := h
  exact ⟨e1, K, p', e2, fun z => ⟨Fm.tr f (y z).1, (y z).2⟩, fun z => ⟨Fm.tr f (n z).1, (n z).2⟩⟩
theorem nm_ge0 {lo hi : Int32} (h0 : 0 ≤ lo) : nm T e b lo hi = -1 ∨ 0 ≤ nm T e b lo hi := by
  by_cases c : nm T e b lo hi = -1
  · exact Or.inl c
  · exact Or.inr (Int32.le_trans h0 (nm_in c).1)
theorem nbP_ge0 {k : Nat} {lo hi : Int32} (h0 : 0 ≤ lo) : (nbP T e k lo hi b).1 = -1 ∨ 0 ≤ (nbP T e k lo hi b).1 := by
  unfold nbP
  by_cases c : isWd T e b k = true
  · rw [if_pos c]
    by_cases c2 : nm T e (nx T e b) lo hi = -1
    · rw [if_pos c2]
      exact Or.inl rfl
    · rw [if_neg c2]
      exact nm_ge0 h0
  · rw [if_neg c]
    exact Or.inl rfl
theorem h_numberBehind (hw : WdS S) (hT : I 426 = T) {k : Nat} (hk : k < 27) (hq : Pp e p I) (hb : rn T e 4 p = b) {lo hi : Int32} (h0 : 0 ≤ lo) : Sp S m_X12_numberBehind 18 0 0 [.ref 420, .ref (130 + k), .int lo, .int hi] (hp I L w1 w2 t) (fun v h' => v = some (.int (nbP T e k lo hi b).1) ∧ ∃ J p', h' = hp J L w1 w2 t ∧ Fm sR I J ∧ (¬ (nbP T e k lo hi b).1 = -1 → Pp e p' J ∧ rn T e 4 p' = (nbP T e k lo hi b).2) ∧ ((nbP T e k lo hi b).1 = -1 → J 420 12 = nI (nbP T e k lo hi b).2)) nX := by
  refine Sp_of ok_X12_numberBehind rfl rfl ?_
  show AW S m_X12_numberBehind 18 _ _ 0 0 0 [some (.ref 420), some (.ref (130 + k)), some (.int lo), some (.int hi)] [] (hp I L w1 w2 t)
  refine a_l0 rfl rfl rfl ?_
  refine a_gV rfl lX12_106 mo_X12_letters (h_letters hq) rfl rfl rfl ⟨12, _, rfl, rfl, rfl⟩ rfl (fun v' h' hv => ?_)
  obtain ⟨rfl, J1, rfl, h1⟩ := hv
  rw [hT, hb] at h1
  have eT1 : J1 426 = T := (Rd.T h1).trans hT
  refine a_l0 rfl rfl rfl ?_
  refine a_l1 rfl rfl rfl ?_
  refine a_eV1 rfl lX12_109 mo_X12_isWord (h_isWord (k := k) hw hk (Rd.be h1) (Rd.bp h1) (Rd.pp h1)) rfl rfl rfl ⟨12, _, rfl, rfl, rfl⟩ rfl ?_
  obtain ⟨z, cz⟩ : ∃ z, isWd T e b k = z := ⟨_, rfl⟩
  refine a_top (y := bI z) (by rw [eT1]; exact congrArg bI ((isW_wd hk).trans cz)) ?_
  cases z with
  | true =>
    refine a_if_eq rfl (fun z => absurd z (by decide)) (fun _ => ?_)
    have k1 := (of_decide_eq_true cz).1
    refine a_l0 rfl rfl rfl ?_
    refine a_l2 rfl rfl rfl ?_
    refine a_l3 rfl rfl rfl ?_
    refine a_gV rfl lX12_113 mo_X12_number (h_number (b := nx T e b) (x := lo) (y := hi) (Rd.pp h1) (by rw [eT1, ← en_1 k1]; rfl) h0) rfl rfl rfl ⟨12, _, rfl, rfl, rfl⟩ rfl (fun v' h' hv => ?_)
    obtain ⟨rfl, J2, rfl, h2⟩ := hv
    rw [eT1] at h2 ⊢
    refine a_goto rfl ?_
    rw [nbP_t cz]
    by_cases c2 : nm T e (nx T e b) lo hi = -1
    · rw [if_pos c2, c2]
      exact a_iret rfl rfl ⟨rfl, J2, 0, rfl, Fm.tr (Rd.fm h1) (Rd.fm h2), fun z => absurd rfl z, fun _ => Rd.be h2⟩
    · rw [if_neg c2]
      exact a_iret rfl rfl ⟨rfl, J2, _, rfl, Fm.tr (Rd.fm h1) (Rd.fm h2), fun _ => ⟨Rd.pp h2, by rw [← en_2 (nm_in c2).2.2.1]; rfl⟩, fun z => absurd z c2⟩
  | false =>
    refine a_if_eq rfl (fun _ => ?_) (fun z => absurd rfl z)
    refine a_s rfl rfl ?_
    rw [nbP_f cz]
    exact a_iret rfl rfl ⟨rfl, J1, 0, rfl, Rd.fm h1, fun z => absurd rfl z, fun _ => Rd.be h1⟩
theorem h_readNumber (hT : I 426 = T) (hq : Pp e p I) (hb : rn T e 4 p = b) (h421 : I 421 = W) {i : Nat} (h4 : 4 ≤ i) (h8 : i ≤ 8) {x y : Int32} (h0 : 0 ≤ x) : Sp S m_X12_readNumber 16 0 0 [.ref 420, .int (nI i), .int x, .int y] (hp I L w1 w2 t) (QH T e (setP T e b W i x y) I L w1 w2 t) nX := by
  refine Sp_of ok_X12_readNumber rfl rfl ?_
  show AW S m_X12_readNumber 16 _ _ 0 0 0 [some (.ref 420), some (.int (nI i)), some (.int x), some (.int y), none] [] (hp I L w1 w2 t)
  refine a_l0 rfl rfl rfl ?_
  refine a_l2 rfl rfl rfl ?_
  refine a_l3 rfl rfl rfl ?_
  refine a_gV rfl lX12_113 mo_X12_number (h_number (b := b) hq (by rw [hT]; exact hb) h0) rfl rfl rfl ⟨12, _, rfl, rfl, rfl⟩ rfl (fun v' h' hv => ?_)
  obtain ⟨rfl, J, rfl, h⟩ := hv
  rw [hT] at h ⊢
  refine a_s4 rfl rfl rfl rfl rfl rfl ?_
  refine a_l0 rfl rfl rfl ?_
  refine a_getq rfl gfX12_13_12 rfl (rfl) ?_
  refine a_l1 rfl rfl rfl ?_
  refine a_l4 rfl rfl rfl ?_
  have fs : ∀ v, Fm sS I (up2 J 421 i v) := fun v => Fm.up (Fm.mo (Rd.fm h) sR_sS) (sS_at (stC_of _ (by omega) (by omega) (by omega)))
  by_cases c : nm T e b x y = -1
  · rw [show setP T e b W i x y = (false, b, W) from if_pos c, c]
    refine a_if_ge rfl (fun z => absurd z (by decide)) (fun _ => ?_)
    refine a_l0 rfl rfl rfl ?_
    refine a_getq rfl gfX12_13_12 rfl (rfl) ?_
    refine a_l1 rfl rfl rfl ?_
    refine a_ialdv (v := J 421 i) rfl (n := 2033) rfl (inI_nI (by omega) (by omega)) (by rw [nI_clamp (by omega)]) ?_
    refine a_goto rfl ?_
    refine a_iastv (k := i) rfl (n := 2033) rfl (inI_nI (by omega) (by omega)) (nI_clamp (by omega)) ?_
    refine a_l4 rfl rfl rfl ?_
    refine a_if_lt rfl (fun _ => ?_) (fun z => absurd (by decide) z)
    refine a_s rfl rfl ?_
    exact a_zret rfl rfl rfl (QH.no (fs _) ((congrFun (up2_row (by decide)) 12).trans (Rd.be h)))
  · rw [show setP T e b W i x y = (true, nx T e b, ud W i (nm T e b x y)) from if_neg c]
    have g0 := Int32.le_trans h0 (nm_in c).1
    refine a_if_ge rfl (fun _ => ?_) (fun z => absurd g0 z)
    refine a_l4 rfl rfl rfl ?_
    refine a_iastv (k := i) rfl (n := 2033) rfl (inI_nI (by omega) (by omega)) (nI_clamp (by omega)) ?_
    refine a_l4 rfl rfl rfl ?_
    refine a_if_lt rfl (fun z => absurd z (Int32.not_lt.mpr g0)) (fun _ => ?_)
    refine a_s rfl rfl ?_
    refine a_goto rfl ?_
    refine a_zret rfl rfl rfl (QH.yes ⟨fs _, ?_, (by rw [← en_2 (nm_in c).2.2.1]; rfl : rn T e 4 (rn T e 2 b) = nx T e b), ?_⟩)
    · unfold Pp
      rw [up2_row (by decide)]
      exact Rd.pp h
    · rw [up2_ud, Rd.w h, h421]
theorem h_readForgotten (hT : I 426 = T) (hq : Pp e p I) (hb : rn T e 4 p = b) (h421 : I 421 = W) (hW : WOk W) : Sp S m_X12_readForgotten 16 0 0 [.ref 420] (hp I L w1 w2 t) (QH T e (forP T e b W) I L w1 w2 t) nX := by
  have h12 := hW.2.1
  refine Sp_of ok_X12_readForgotten rfl rfl ?_
  show AW S m_X12_readForgotten 16 _ _ 0 0 0 [some (.ref 420), none] [] (hp I L w1 w2 t)
  refine a_l0 rfl rfl rfl ?_
  refine a_s rfl rfl ?_
  refine a_l0 rfl rfl rfl ?_
  refine a_eV1 rfl lX12_74 mo_X12_duties sp_X12_duties rfl rfl rfl ⟨12, _, rfl, rfl, rfl⟩ rfl ?_
  refine a_s rfl rfl ?_
  refine a_s rfl rfl ?_
  refine a_top (y := W 1 - 1) (by rw [h421]) ?_
  refine a_gV rfl lX12_113 mo_X12_number (h_number (b := b) (x := 0) (y := W 1 - 1) hq (by rw [hT]; exact hb) (by decide)) rfl rfl rfl ⟨12, _, rfl, rfl, rfl⟩ rfl (fun v' h' hv => ?_)
  obtain ⟨rfl, J, rfl, h⟩ := hv
  rw [hT] at h ⊢
  have no : ∀ {v : Int32}, forP T e b W = (false, b, W) → AW S m_X12_readForgotten 16 (QH T e (forP T e b W) I L w1 w2 t) nX 0 0 24 [some (.ref 420), some (.int v)] [] (hp J L w1 w2 t) := by
    intro v ef
    rw [ef]
    refine a_s rfl rfl ?_
    exact a_zret rfl rfl rfl (QH.no (Fm.mo (Rd.fm h) sR_sS) (Rd.be h))
  refine a_s1 rfl rfl rfl rfl rfl rfl ?_
  refine a_l1 rfl rfl rfl ?_
  by_cases c : nm T e b 0 (W 1 - 1) = -1
  · refine a_if_lt rfl (fun _ => no (if_pos c)) (fun z => absurd (by rw [c]; decide) z)
  obtain ⟨j, hj, ej⟩ := nm_ix h12 (by rw [← hW.2.2.2]; exact c)
  rw [← hW.2.2.2] at ej
  refine a_if_lt rfl (fun z => absurd z (by rw [ej]; exact nI_pos (by omega))) (fun _ => ?_)
  rw [ej]
  refine a_l0 rfl rfl rfl ?_
  refine a_l1 rfl rfl rfl ?_
  refine a_eV1 rfl lX12_135 mo_X12_isWaiting (sp_X12_isWaiting (d := j) (by omega)) rfl rfl rfl ⟨12, _, rfl, rfl, rfl⟩ rfl ?_
  have e5 : vd (J 421) 5 j = W (23 + 6 * j + 5) := by rw [Rd.w h, h421]
  rw [e5]
  by_cases cw : W (23 + 6 * j + 5) = 0
  · rw [decide_eq_true cw]
    refine a_if_ne rfl (fun _ => ?_) (fun z => absurd z (by decide))
    rw [show forP T e b W = (true, nx T e b, ud W (23 + 6 * j + 5) 2) by unfold forP; rw [if_neg c, ej, nI_clamp (by omega), if_pos cw]]
    refine a_l0 rfl rfl rfl ?_
    refine a_getq rfl gfX12_13_12 rfl (rfl) ?_
    refine a_l1 rfl rfl rfl ?_
    refine a_s rfl rfl ?_
    refine a_eS1 rfl lX12_60 mo_X12_at (sp_X12_at (d := j) (k := 5)) rfl rfl rfl rfl ?_
    refine a_s rfl rfl ?_
    refine a_iastv (k := 23 + 6 * j + 5) rfl (n := 2033) rfl (inI_nI (by omega) (by omega)) (nI_clamp (by omega)) ?_
    refine a_s rfl rfl ?_
    refine a_zret rfl rfl rfl (QH.yes ⟨Fm.up (Fm.mo (Rd.fm h) sR_sS) (sS_at (stC_of _ (by omega) (by omega) (by omega))), ?_, (by rw [← en_2 (nm_in c).2.2.1]; rfl : rn T e 4 (rn T e 2 b) = nx T e b), ?_⟩)
    · unfold Pp
      rw [up2_row (by decide)]
      exact Rd.pp h
    · rw [up2_ud, Rd.w h, h421]
  · rw [decide_eq_false cw]
    refine a_if_ne rfl (fun z => absurd rfl z) (fun _ => no ?_)
    unfold forP
    rw [if_neg c, ej, nI_clamp (by omega), if_neg cw]
theorem h_readPerson (hw : WdS S) (hT : I 426 = T) (hq : Pp e p I) (hn : rn T e 4 p = nx T e b) (h12 : I 420 12 = nI b) (h421 : I 421 = W) (hW : WOk W) : Sp S m_X12_readPerson 20 0 0 [.ref 420] (hp I L w1 w2 t) (QH T e (perP T e b W) I L w1 w2 t) nX := by
  have hp6 := hW.1
  refine Sp_of ok_X12_readPerson rfl rfl ?_
  show AW S m_X12_readPerson 20 _ _ 0 0 0 [some (.ref 420), none, none, none] [] (hp I L w1 w2 t)
  refine a_l0 rfl rfl rfl ?_
  refine a_eV1 rfl lX12_66 mo_X12_people sp_X12_people rfl rfl rfl ⟨12, _, rfl, rfl, rfl⟩ rfl ?_
  refine a_top (y := nI (pn W)) (by rw [h421]; exact hW.2.2.1) ?_
  refine a_s1 rfl rfl rfl rfl rfl rfl ?_
  refine a_l1 rfl rfl rfl ?_
  refine a_s rfl rfl ?_
  refine a_ic_ne rfl (fun c => ?_) (fun c => ?_)
  rotate_left
  · rw [show perP T e b W = (false, b, W) from if_pos (hW.2.2.1.trans c)]
    refine a_s rfl rfl ?_
    exact a_zret rfl rfl rfl (QH.no Fm.rf h12)
  have n6 : ¬ pn W = 6 := fun z => c (congrArg nI z)
  rw [show perP T e b W = perB T e W (nbP T e 1 0 15 (nx T e b)) from if_neg fun z => c (hW.2.2.1.symm.trans z)]
  refine a_l0 rfl rfl rfl ?_
  refine a_ldcs (q := 130 + 1) rfl (hw.ld (i := 1) (by decide)) ?_
  refine a_s rfl rfl ?_
  refine a_s rfl rfl ?_
  refine a_gV rfl lX12_117 mo_X12_numberBehind (h_numberBehind (k := 1) (lo := 0) (hi := 15) hw hT (by decide) hq hn (by decide)) rfl rfl rfl ⟨12, _, rfl, rfl, rfl⟩ rfl (fun v' h' hv => ?_)
  obtain ⟨rfl, J1, p1, rfl, f1, g1, z1⟩ := hv
  have hx := nbP_ge0 (T := T) (e := e) (b := nx T e b) (k := 1) (lo := 0) (hi := 15) (by decide)
  generalize nbP T e 1 0 15 (nx T e b) = x at g1 z1 hx ⊢
  refine a_s2 rfl rfl rfl rfl rfl rfl ?_
  refine a_l2 rfl rfl rfl ?_
  refine a_if_ge rfl (fun c1 => ?_) (fun c1 => ?_)
  rotate_left
  · have e1 := hx.resolve_right c1
    rw [show perB T e W x = (false, x.2, W) from if_pos e1]
    refine a_s rfl rfl ?_
    refine a_goto rfl ?_
    refine a_s3 rfl rfl rfl rfl rfl rfl ?_
    refine a_l3 rfl rfl rfl ?_
    refine a_if_ge rfl (fun c => absurd c (by decide)) (fun _ => ?_)
    refine a_s rfl rfl ?_
    exact a_zret rfl rfl rfl (QH.no (Fm.mo f1 sR_sS) (z1 e1))
  have n1 : ¬ x.1 = -1 := fun z => by
    rw [z] at c1
    exact absurd c1 (by decide)
  obtain ⟨q1, b1⟩ := g1 n1
  rw [show perB T e W x = perC W x.1 (nbP T e 2 0 9 x.2) from if_neg n1]
  have eT1 : J1 426 = T := (funext fun k => f1 426 k rfl).trans hT
  refine a_l0 rfl rfl rfl ?_
  refine a_ldcs (q := 130 + 2) rfl (hw.ld (i := 2) (by decide)) ?_
  refine a_s rfl rfl ?_
  refine a_s rfl rfl ?_
  refine a_gV rfl lX12_117 mo_X12_numberBehind (h_numberBehind (k := 2) (lo := 0) (hi := 9) hw eT1 (by decide) q1 b1 (by decide)) rfl rfl rfl ⟨12, _, rfl, rfl, rfl⟩ rfl (fun v' h' hv => ?_)
  obtain ⟨rfl, J2, p2, rfl, f2, g2, z2⟩ := hv
  have hy := nbP_ge0 (T := T) (e := e) (b := x.2) (k := 2) (lo := 0) (hi := 9) (by decide)
  generalize nbP T e 2 0 9 x.2 = y at g2 z2 hy ⊢
  have f12 : Fm sS I J2 := Fm.mo (Fm.tr f1 f2) sR_sS
  refine a_s3 rfl rfl rfl rfl rfl rfl ?_
  refine a_l3 rfl rfl rfl ?_
  refine a_if_ge rfl (fun c2 => ?_) (fun c2 => ?_)
  rotate_left
  · have e2 := hy.resolve_right c2
    rw [show perC W x.1 y = (false, y.2, W) from if_pos e2]
    refine a_s rfl rfl ?_
    exact a_zret rfl rfl rfl (QH.no f12 (z2 e2))
  have n2 : ¬ y.1 = -1 := fun z => by
    rw [z] at c2
    exact absurd c2 (by decide)
  obtain ⟨q2, b2⟩ := g2 n2
  rw [show perC W x.1 y = (true, y.2, addPs W x.1 y.1) from if_neg n2]
  have w2' : J2 421 = W := (funext fun k => (Fm.tr f1 f2) 421 k rfl).trans h421
  refine a_l0 rfl rfl rfl ?_
  refine a_getq rfl gfX12_13_12 rfl (rfl) ?_
  refine a_l1 rfl rfl rfl ?_
  refine a_s rfl rfl ?_
  refine a_eS1 rfl lX12_56 mo_X12_personAt (sp_X12_personAt (d := pn W) (k := 0)) rfl rfl rfl rfl ?_
  refine a_l2 rfl rfl rfl ?_
  refine a_iastv (k := 11 + 2 * pn W) rfl (n := 2033) rfl (inI_nI (by omega) (by omega)) (nI_clamp (by omega)) ?_
  refine a_l0 rfl rfl rfl ?_
  refine a_getq rfl gfX12_13_12 rfl (rfl) ?_
  refine a_l1 rfl rfl rfl ?_
  refine a_s rfl rfl ?_
  refine a_eS1 rfl lX12_56 mo_X12_personAt (sp_X12_personAt (d := pn W) (k := 1)) rfl rfl rfl rfl ?_
  refine a_l3 rfl rfl rfl ?_
  refine a_iastv (k := 11 + 2 * pn W + 1) rfl (n := 2033) rfl (inI_nI (by omega) (by omega)) (nI_clamp (by omega)) ?_
  refine a_l0 rfl rfl rfl ?_
  refine a_getq rfl gfX12_13_12 rfl (rfl) ?_
  refine a_s rfl rfl ?_
  refine a_s rfl rfl ?_
  refine a_ialdv (v := nI (pn W)) rfl (n := 2033) rfl ⟨by decide, by decide⟩ ?_ ?_
  · show up2 (up2 J2 421 (11 + 2 * pn W) x.1) 421 (11 + 2 * pn W + 1) y.1 421 0 = nI (pn W)
    rw [u2_lo (by omega), u2_lo (by omega), w2']
    exact hW.2.2.1
  refine a_s rfl rfl ?_
  refine a_s rfl rfl ?_
  refine a_top (y := nI (pn W + 1)) ((nI_succ _).symm) ?_
  refine a_iastv (k := 0) rfl (n := 2033) rfl ⟨by decide, by decide⟩ rfl ?_
  refine a_s rfl rfl ?_
  refine a_zret rfl rfl rfl (QH.yes (p := p2) ⟨Fm.up (Fm.up (Fm.up f12 (sS_at (stC_of _ (by omega) (by omega) (by omega)))) (sS_at (stC_of _ (by omega) (by omega) (by omega)))) (sS_at rfl), ?_, b2, ?_⟩)
  · unfold Pp
    rw [up2_row (by decide), up2_row (by decide), up2_row (by decide)]
    exact q2
  · rw [up2_ud, up2_ud, up2_ud, w2']
    rfl
theorem h_du156 (hW : WOk W) (h12 : ¬ W 1 = 12) {x0 x1 x2 x3 x4 : Int32} {u5 u7 : Option Value} {J : Nat → Nat → Int32} (C : Hf T e b W I J p) : AW S m_X12_readDuty 21 (QH T e (true, b, addDt W x0 x1 x2 x3 x4) I L w1 w2 t) nX 0 0 156 [some (.ref 420), some (.int (nI (dn W))), some (.int x0), some (.int x1), some (.int x2), u5, some (.int x3), u7, some (.int x4)] [] (hp J L w1 w2 t) := by
  have hlt : dn W < 12 := by
    have := hW.2.1
    have : dn W ≠ 12 := fun z => h12 (by rw [hW.2.2.2, z]; rfl)
    omega
  refine a_l0 rfl rfl rfl ?_
  refine a_getq rfl gfX12_13_12 rfl (rfl) ?_
  refine a_l1 rfl rfl rfl ?_
  refine a_s rfl rfl ?_
  refine a_eS1 rfl lX12_60 mo_X12_at (sp_X12_at (d := dn W) (k := 0)) rfl rfl rfl rfl ?_
  refine a_l2 rfl rfl rfl ?_
  refine a_iastv (k := 23 + 6 * dn W + 0) rfl (n := 2033) rfl (inI_nI (by omega) (by omega)) (nI_clamp (by omega)) ?_
  refine a_l0 rfl rfl rfl ?_
  refine a_getq rfl gfX12_13_12 rfl (rfl) ?_
  refine a_l1 rfl rfl rfl ?_
  refine a_s rfl rfl ?_
  refine a_eS1 rfl lX12_60 mo_X12_at (sp_X12_at (d := dn W) (k := 1)) rfl rfl rfl rfl ?_
  refine a_l3 rfl rfl rfl ?_
  refine a_iastv (k := 23 + 6 * dn W + 1) rfl (n := 2033) rfl (inI_nI (by omega) (by omega)) (nI_clamp (by omega)) ?_
  refine a_l0 rfl rfl rfl ?_
  refine a_getq rfl gfX12_13_12 rfl (rfl) ?_
  refine a_l1 rfl rfl rfl ?_
  refine a_s rfl rfl ?_
  refine a_eS1 rfl lX12_60 mo_X12_at (sp_X12_at (d := dn W) (k := 2)) rfl rfl rfl rfl ?_
  refine a_l4 rfl rfl rfl ?_
  refine a_iastv (k := 23 + 6 * dn W + 2) rfl (n := 2033) rfl (inI_nI (by omega) (by omega)) (nI_clamp (by omega)) ?_
  refine a_l0 rfl rfl rfl ?_
  refine a_getq rfl gfX12_13_12 rfl (rfl) ?_
  refine a_l1 rfl rfl rfl ?_
  refine a_s rfl rfl ?_
  refine a_eS1 rfl lX12_60 mo_X12_at (sp_X12_at (d := dn W) (k := 3)) rfl rfl rfl rfl ?_
  refine a_l6 rfl rfl rfl ?_
  refine a_iastv (k := 23 + 6 * dn W + 3) rfl (n := 2033) rfl (inI_nI (by omega) (by omega)) (nI_clamp (by omega)) ?_
  refine a_l0 rfl rfl rfl ?_
  refine a_getq rfl gfX12_13_12 rfl (rfl) ?_
  refine a_l1 rfl rfl rfl ?_
  refine a_s rfl rfl ?_
  refine a_eS1 rfl lX12_60 mo_X12_at (sp_X12_at (d := dn W) (k := 4)) rfl rfl rfl rfl ?_
  refine a_l8 rfl rfl rfl ?_
  refine a_iastv (k := 23 + 6 * dn W + 4) rfl (n := 2033) rfl (inI_nI (by omega) (by omega)) (nI_clamp (by omega)) ?_
  refine a_l0 rfl rfl rfl ?_
  refine a_getq rfl gfX12_13_12 rfl (rfl) ?_
  refine a_l1 rfl rfl rfl ?_
  refine a_s rfl rfl ?_
  refine a_eS1 rfl lX12_60 mo_X12_at (sp_X12_at (d := dn W) (k := 5)) rfl rfl rfl rfl ?_
  refine a_s rfl rfl ?_
  refine a_iastv (k := 23 + 6 * dn W + 5) rfl (n := 2033) rfl (inI_nI (by omega) (by omega)) (nI_clamp (by omega)) ?_
  refine a_l0 rfl rfl rfl ?_
  refine a_getq rfl gfX12_13_12 rfl (rfl) ?_
  refine a_s rfl rfl ?_
  refine a_s rfl rfl ?_
  refine a_ialdv (v := nI (dn W)) rfl (n := 2033) rfl ⟨by decide, by decide⟩ ?_ ?_
  · show up2 (up2 (up2 (up2 (up2 (up2 J 421 (23 + 6 * dn W + 0) _) 421 (23 + 6 * dn W + 1) _) 421 (23 + 6 * dn W + 2) _) 421 (23 + 6 * dn W + 3) _) 421 (23 + 6 * dn W + 4) _) 421 (23 + 6 * dn W + 5) _ 421 1 = nI (dn W)
    rw [u2_lo (by omega), u2_lo (by omega), u2_lo (by omega), u2_lo (by omega), u2_lo (by omega), u2_lo (by omega), Hf.wd C]
    exact hW.2.2.2
  refine a_s rfl rfl ?_
  refine a_s rfl rfl ?_
  refine a_top (y := nI (dn W + 1)) ((nI_succ _).symm) ?_
  refine a_iastv (k := 1) rfl (n := 2033) rfl ⟨by decide, by decide⟩ rfl ?_
  refine a_s rfl rfl ?_
  refine a_zret rfl rfl rfl (QH.yes (p := p) ⟨dutH_fm hlt C.1, ?_, Hf.nb C, ?_⟩)
  · unfold Pp
    rw [up2_row (by decide), up2_row (by decide), up2_row (by decide), up2_row (by decide), up2_row (by decide), up2_row (by decide), up2_row (by decide)]
    exact Hf.pp C
  · rw [up2_ud, up2_ud, up2_ud, up2_ud, up2_ud, up2_ud, up2_ud, Hf.wd C]
    rfl
theorem h_du117 (hw : WdS S) (hW : WOk W) (h12 : ¬ W 1 = 12) (hT : I 426 = T) {x0 x1 x2 x3 : Int32} {u5 : Option Value} {J : Nat → Nat → Int32} (C : Hf T e b W I J p) : AW S m_X12_readDuty 21 (QH T e (duE W x0 x1 x2 x3 (optP T e 8 0 (W 1 - 1) (-1) b)) I L w1 w2 t) nX 0 0 117 [some (.ref 420), some (.int (nI (dn W))), some (.int x0), some (.int x1), some (.int x2), u5, some (.int x3), none, none] [] (hp J L w1 w2 t) := by
  have eT := Hf.tt C hT
  refine a_l0 rfl rfl rfl ?_
  refine a_ldcs (q := 130 + 8) rfl (hw.ld (i := 8) (by decide)) ?_
  refine a_gV rfl lX12_128 mo_X12_passes (h_passes (b := b) (k := 8) hw (by decide) (Hf.pp C) (by rw [eT]; exact Hf.nb C)) rfl rfl rfl ⟨12, _, rfl, rfl, rfl⟩ rfl (fun v' h' hv => ?_)
  obtain ⟨rfl, K, rfl, h2⟩ := hv
  rw [eT] at h2 ⊢
  obtain ⟨z, cz⟩ : ∃ z, isWd T e b 8 = z := ⟨_, rfl⟩
  rw [cz] at h2 ⊢
  refine a_s7 rfl rfl rfl rfl rfl rfl ?_
  refine a_l7 rfl rfl rfl ?_
  cases z with
  | false =>
    rw [if_neg Bool.false_ne_true] at h2
    rw [show optP T e 8 0 (W 1 - 1) (-1) b = (true, (-1), b) from if_neg (by rw [cz]; exact Bool.false_ne_true), show duE W x0 x1 x2 x3 (true, (-1), b) = (true, b, addDt W x0 x1 x2 x3 (-1)) from if_pos rfl]
    refine a_if_eq rfl (fun _ => ?_) (fun z => absurd rfl z)
    refine a_s rfl rfl ?_
    refine a_s8 rfl rfl rfl rfl rfl rfl ?_
    refine a_l7 rfl rfl rfl ?_
    refine a_if_eq rfl (fun _ => ?_) (fun z => absurd rfl z)
    exact h_du156 hW h12 (Hf.rd C h2 (Hf.sk C))
  | true =>
    rw [if_pos rfl] at h2
    refine a_if_eq rfl (fun z => absurd z (by decide)) (fun _ => ?_)
    have C2 : Hf T e (nx T e b) W I K (en T e b) := Hf.rd C h2 rfl
    have eT2 := Hf.tt C2 hT
    refine a_l0 rfl rfl rfl ?_
    refine a_s rfl rfl ?_
    refine a_l1 rfl rfl rfl ?_
    refine a_s rfl rfl ?_
    refine a_s rfl rfl ?_
    refine a_top (y := W 1 - 1) (by rw [hW.2.2.2]) ?_
    refine a_gV rfl lX12_113 mo_X12_number (h_number (b := nx T e b) (x := 0) (y := (W 1 - 1)) (Hf.pp C2) (by rw [eT2]; exact Hf.nb C2) (by decide)) rfl rfl rfl ⟨12, _, rfl, rfl, rfl⟩ rfl (fun v' h' hv => ?_)
    obtain ⟨rfl, K2, rfl, h3⟩ := hv
    rw [eT2] at h3 ⊢
    refine a_goto rfl ?_
    refine a_s8 rfl rfl rfl rfl rfl rfl ?_
    refine a_l7 rfl rfl rfl ?_
    refine a_if_eq rfl (fun z => absurd z (by decide)) (fun _ => ?_)
    refine a_l8 rfl rfl rfl ?_
    by_cases cn : nm T e (nx T e b) 0 (W 1 - 1) = -1
    · rw [show optP T e 8 0 (W 1 - 1) (-1) b = (false, -1, nx T e b) from (if_pos cz).trans (if_pos cn), show duE W x0 x1 x2 x3 (false, -1, nx T e b) = (false, nx T e b, W) from if_neg Bool.false_ne_true, cn]
      refine a_if_ge rfl (fun c => absurd c (by decide)) (fun _ => ?_)
      refine a_s rfl rfl ?_
      exact a_zret rfl rfl rfl (QH.no (Fm.tr C2.1 (Fm.mo (Rd.fm h3) sR_sS)) (Rd.be h3))
    · rw [show optP T e 8 0 (W 1 - 1) (-1) b = (true, nm T e (nx T e b) 0 (W 1 - 1), nx T e (nx T e b)) from (if_pos cz).trans (if_neg cn), show duE W x0 x1 x2 x3 (true, nm T e (nx T e b) 0 (W 1 - 1), nx T e (nx T e b)) = (true, (nx T e (nx T e b)), addDt W x0 x1 x2 x3 (nm T e (nx T e b) 0 (W 1 - 1))) from if_pos rfl]
      refine a_if_ge rfl (fun _ => ?_) (fun c => absurd (nm_in cn).1 c)
      exact h_du156 hW h12 (Hf.rd C2 h3 (by rw [← en_2 (nm_in cn).2.2.1]; rfl))
theorem h_du80 (hw : WdS S) (hW : WOk W) (h12 : ¬ W 1 = 12) (hT : I 426 = T) {x0 x1 x2 : Int32} {J : Nat → Nat → Int32} (C : Hf T e b W I J p) : AW S m_X12_readDuty 21 (QH T e (duD T e W x0 x1 x2 (optP T e 7 0 5 (-1) b)) I L w1 w2 t) nX 0 0 80 [some (.ref 420), some (.int (nI (dn W))), some (.int x0), some (.int x1), some (.int x2), none, none, none, none] [] (hp J L w1 w2 t) := by
  have eT := Hf.tt C hT
  refine a_l0 rfl rfl rfl ?_
  refine a_ldcs (q := 130 + 7) rfl (hw.ld (i := 7) (by decide)) ?_
  refine a_gV rfl lX12_128 mo_X12_passes (h_passes (b := b) (k := 7) hw (by decide) (Hf.pp C) (by rw [eT]; exact Hf.nb C)) rfl rfl rfl ⟨12, _, rfl, rfl, rfl⟩ rfl (fun v' h' hv => ?_)
  obtain ⟨rfl, K, rfl, h2⟩ := hv
  rw [eT] at h2 ⊢
  obtain ⟨z, cz⟩ : ∃ z, isWd T e b 7 = z := ⟨_, rfl⟩
  rw [cz] at h2 ⊢
  refine a_s5 rfl rfl rfl rfl rfl rfl ?_
  refine a_l5 rfl rfl rfl ?_
  cases z with
  | false =>
    rw [if_neg Bool.false_ne_true] at h2
    rw [show optP T e 7 0 5 (-1) b = (true, (-1), b) from if_neg (by rw [cz]; exact Bool.false_ne_true), show duD T e W x0 x1 x2 (true, (-1), b) = duE W x0 x1 x2 (-1) (optP T e 8 0 (W 1 - 1) (-1) b) from if_pos rfl]
    refine a_if_eq rfl (fun _ => ?_) (fun z => absurd rfl z)
    refine a_s rfl rfl ?_
    refine a_s6 rfl rfl rfl rfl rfl rfl ?_
    refine a_l5 rfl rfl rfl ?_
    refine a_if_eq rfl (fun _ => ?_) (fun z => absurd rfl z)
    exact h_du117 hw hW h12 hT (Hf.rd C h2 (Hf.sk C))
  | true =>
    rw [if_pos rfl] at h2
    refine a_if_eq rfl (fun z => absurd z (by decide)) (fun _ => ?_)
    have C2 : Hf T e (nx T e b) W I K (en T e b) := Hf.rd C h2 rfl
    have eT2 := Hf.tt C2 hT
    refine a_l0 rfl rfl rfl ?_
    refine a_s rfl rfl ?_
    refine a_s rfl rfl ?_
    refine a_gV rfl lX12_113 mo_X12_number (h_number (b := nx T e b) (x := 0) (y := 5) (Hf.pp C2) (by rw [eT2]; exact Hf.nb C2) (by decide)) rfl rfl rfl ⟨12, _, rfl, rfl, rfl⟩ rfl (fun v' h' hv => ?_)
    obtain ⟨rfl, K2, rfl, h3⟩ := hv
    rw [eT2] at h3 ⊢
    refine a_goto rfl ?_
    refine a_s6 rfl rfl rfl rfl rfl rfl ?_
    refine a_l5 rfl rfl rfl ?_
    refine a_if_eq rfl (fun z => absurd z (by decide)) (fun _ => ?_)
    refine a_l6 rfl rfl rfl ?_
    by_cases cn : nm T e (nx T e b) 0 5 = -1
    · rw [show optP T e 7 0 5 (-1) b = (false, -1, nx T e b) from (if_pos cz).trans (if_pos cn), show duD T e W x0 x1 x2 (false, -1, nx T e b) = (false, nx T e b, W) from if_neg Bool.false_ne_true, cn]
      refine a_if_ge rfl (fun c => absurd c (by decide)) (fun _ => ?_)
      refine a_s rfl rfl ?_
      exact a_zret rfl rfl rfl (QH.no (Fm.tr C2.1 (Fm.mo (Rd.fm h3) sR_sS)) (Rd.be h3))
    · rw [show optP T e 7 0 5 (-1) b = (true, nm T e (nx T e b) 0 5, nx T e (nx T e b)) from (if_pos cz).trans (if_neg cn), show duD T e W x0 x1 x2 (true, nm T e (nx T e b) 0 5, nx T e (nx T e b)) = duE W x0 x1 x2 (nm T e (nx T e b) 0 5) (optP T e 8 0 (W 1 - 1) (-1) (nx T e (nx T e b))) from if_pos rfl]
      refine a_if_ge rfl (fun _ => ?_) (fun c => absurd (nm_in cn).1 c)
      exact h_du117 hw hW h12 hT (Hf.rd C2 h3 (by rw [← en_2 (nm_in cn).2.2.1]; rfl))
theorem h_du51 (hw : WdS S) (hW : WOk W) (h12 : ¬ W 1 = 12) (hT : I 426 = T) {x0 x1 : Int32} {J : Nat → Nat → Int32} (C : Hf T e b W I J p) : AW S m_X12_readDuty 21 (QH T e (duC T e W x0 x1 (optP T e 6 0 99 0 b)) I L w1 w2 t) nX 0 0 51 [some (.ref 420), some (.int (nI (dn W))), some (.int x0), some (.int x1), none, none, none, none, none] [] (hp J L w1 w2 t) := by
  have eT := Hf.tt C hT
  refine a_l0 rfl rfl rfl ?_
  refine a_ldcs (q := 130 + 6) rfl (hw.ld (i := 6) (by decide)) ?_
  refine a_gV rfl lX12_128 mo_X12_passes (h_passes (b := b) (k := 6) hw (by decide) (Hf.pp C) (by rw [eT]; exact Hf.nb C)) rfl rfl rfl ⟨12, _, rfl, rfl, rfl⟩ rfl (fun v' h' hv => ?_)
  obtain ⟨rfl, K, rfl, h2⟩ := hv
  rw [eT] at h2 ⊢
  obtain ⟨z, cz⟩ : ∃ z, isWd T e b 6 = z := ⟨_, rfl⟩
  rw [cz] at h2 ⊢
  cases z with
  | false =>
    rw [if_neg Bool.false_ne_true] at h2
    rw [show optP T e 6 0 99 0 b = (true, 0, b) from if_neg (by rw [cz]; exact Bool.false_ne_true), show duC T e W x0 x1 (true, 0, b) = duD T e W x0 x1 0 (optP T e 7 0 5 (-1) b) from if_pos rfl]
    refine a_if_eq rfl (fun _ => ?_) (fun z => absurd rfl z)
    refine a_s rfl rfl ?_
    refine a_s4 rfl rfl rfl rfl rfl rfl ?_
    refine a_l4 rfl rfl rfl ?_
    refine a_if_ge rfl (fun _ => ?_) (fun z => absurd (by decide) z)
    exact h_du80 hw hW h12 hT (Hf.rd C h2 (Hf.sk C))
  | true =>
    rw [if_pos rfl] at h2
    refine a_if_eq rfl (fun z => absurd z (by decide)) (fun _ => ?_)
    have C2 : Hf T e (nx T e b) W I K (en T e b) := Hf.rd C h2 rfl
    have eT2 := Hf.tt C2 hT
    refine a_l0 rfl rfl rfl ?_
    refine a_s rfl rfl ?_
    refine a_s rfl rfl ?_
    refine a_gV rfl lX12_113 mo_X12_number (h_number (b := nx T e b) (x := 0) (y := 99) (Hf.pp C2) (by rw [eT2]; exact Hf.nb C2) (by decide)) rfl rfl rfl ⟨12, _, rfl, rfl, rfl⟩ rfl (fun v' h' hv => ?_)
    obtain ⟨rfl, K2, rfl, h3⟩ := hv
    rw [eT2] at h3 ⊢
    refine a_goto rfl ?_
    refine a_s4 rfl rfl rfl rfl rfl rfl ?_
    refine a_l4 rfl rfl rfl ?_
    by_cases cn : nm T e (nx T e b) 0 99 = -1
    · rw [show optP T e 6 0 99 0 b = (false, -1, nx T e b) from (if_pos cz).trans (if_pos cn), show duC T e W x0 x1 (false, -1, nx T e b) = (false, nx T e b, W) from if_neg Bool.false_ne_true, cn]
      refine a_if_ge rfl (fun c => absurd c (by decide)) (fun _ => ?_)
      refine a_s rfl rfl ?_
      exact a_zret rfl rfl rfl (QH.no (Fm.tr C2.1 (Fm.mo (Rd.fm h3) sR_sS)) (Rd.be h3))
    · rw [show optP T e 6 0 99 0 b = (true, nm T e (nx T e b) 0 99, nx T e (nx T e b)) from (if_pos cz).trans (if_neg cn), show duC T e W x0 x1 (true, nm T e (nx T e b) 0 99, nx T e (nx T e b)) = duD T e W x0 x1 (nm T e (nx T e b) 0 99) (optP T e 7 0 5 (-1) (nx T e (nx T e b))) from if_pos rfl]
      refine a_if_ge rfl (fun _ => ?_) (fun c => absurd (nm_in cn).1 c)
      exact h_du80 hw hW h12 hT (Hf.rd C2 h3 (by rw [← en_2 (nm_in cn).2.2.1]; rfl))
theorem h_readDuty (hw : WdS S) (hT : I 426 = T) (hq : Pp e p I) (hn : rn T e 4 p = nx T e b) (h12 : I 420 12 = nI b) (h421 : I 421 = W) (hW : WOk W) : Sp S m_X12_readDuty 21 0 0 [.ref 420] (hp I L w1 w2 t) (QH T e (dutP T e b W) I L w1 w2 t) nX := by
  have hd12 := hW.2.1
  refine Sp_of ok_X12_readDuty rfl rfl ?_
  show AW S m_X12_readDuty 21 _ _ 0 0 0 [some (.ref 420), none, none, none, none, none, none, none, none] [] (hp I L w1 w2 t)
  refine a_l0 rfl rfl rfl ?_
  refine a_eV1 rfl lX12_74 mo_X12_duties sp_X12_duties rfl rfl rfl ⟨12, _, rfl, rfl, rfl⟩ rfl ?_
  refine a_top (y := nI (dn W)) (by rw [h421]; exact hW.2.2.2) ?_
  refine a_s1 rfl rfl rfl rfl rfl rfl ?_
  refine a_l1 rfl rfl rfl ?_
  refine a_s rfl rfl ?_
  refine a_ic_ne rfl (fun c => ?_) (fun c => ?_)
  rotate_left
  · rw [show dutP T e b W = (false, b, W) from if_pos (hW.2.2.2.trans c)]
    refine a_s rfl rfl ?_
    exact a_zret rfl rfl rfl (QH.no Fm.rf h12)
  have h12' : ¬ W 1 = 12 := fun z => c (hW.2.2.2.symm.trans z)
  rw [show dutP T e b W = duA T e W (nbP T e 4 0 (W 0 - 1) (nx T e b)) from if_neg h12']
  refine a_l0 rfl rfl rfl ?_
  refine a_ldcs (q := 130 + 4) rfl (hw.ld (i := 4) (by decide)) ?_
  refine a_s rfl rfl ?_
  refine a_l0 rfl rfl rfl ?_
  refine a_eV1 rfl lX12_66 mo_X12_people sp_X12_people rfl rfl rfl ⟨12, _, rfl, rfl, rfl⟩ rfl ?_
  refine a_s rfl rfl ?_
  refine a_s rfl rfl ?_
  refine a_top (y := W 0 - 1) (by rw [h421]) ?_
  refine a_gV rfl lX12_117 mo_X12_numberBehind (h_numberBehind (k := 4) (lo := 0) (hi := W 0 - 1) hw hT (by decide) hq hn (by decide)) rfl rfl rfl ⟨12, _, rfl, rfl, rfl⟩ rfl (fun v' h' hv => ?_)
  obtain ⟨rfl, J1, p1, rfl, f1, g1, z1⟩ := hv
  have hx := nbP_ge0 (T := T) (e := e) (b := nx T e b) (k := 4) (lo := 0) (hi := W 0 - 1) (by decide)
  generalize nbP T e 4 0 (W 0 - 1) (nx T e b) = x at g1 z1 hx ⊢
  refine a_s2 rfl rfl rfl rfl rfl rfl ?_
  refine a_l2 rfl rfl rfl ?_
  refine a_if_ge rfl (fun c1 => ?_) (fun c1 => ?_)
  rotate_left
  · have e1 := hx.resolve_right c1
    rw [show duA T e W x = (false, x.2, W) from if_pos e1]
    refine a_s rfl rfl ?_
    refine a_goto rfl ?_
    refine a_s3 rfl rfl rfl rfl rfl rfl ?_
    refine a_l3 rfl rfl rfl ?_
    refine a_if_ge rfl (fun c => absurd c (by decide)) (fun _ => ?_)
    refine a_s rfl rfl ?_
    exact a_zret rfl rfl rfl (QH.no (Fm.mo f1 sR_sS) (z1 e1))
  have n1 : ¬ x.1 = -1 := fun z => by
    rw [z] at c1
    exact absurd c1 (by decide)
  obtain ⟨q1, b1⟩ := g1 n1
  rw [show duA T e W x = duB T e W x.1 (nbP T e 5 1 99 x.2) from if_neg n1]
  have eT1 : J1 426 = T := (funext fun k => f1 426 k rfl).trans hT
  refine a_l0 rfl rfl rfl ?_
  refine a_ldcs (q := 130 + 5) rfl (hw.ld (i := 5) (by decide)) ?_
  refine a_s rfl rfl ?_
  refine a_s rfl rfl ?_
  refine a_gV rfl lX12_117 mo_X12_numberBehind (h_numberBehind (k := 5) (lo := 1) (hi := 99) hw eT1 (by decide) q1 b1 (by decide)) rfl rfl rfl ⟨12, _, rfl, rfl, rfl⟩ rfl (fun v' h' hv => ?_)
  obtain ⟨rfl, J2, p2, rfl, f2, g2, z2⟩ := hv
  have hy := nbP_ge0 (T := T) (e := e) (b := x.2) (k := 5) (lo := 1) (hi := 99) (by decide)
  generalize nbP T e 5 1 99 x.2 = y at g2 z2 hy ⊢
  have f12 : Fm sS I J2 := Fm.mo (Fm.tr f1 f2) sR_sS
  refine a_s3 rfl rfl rfl rfl rfl rfl ?_
  refine a_l3 rfl rfl rfl ?_
  refine a_if_ge rfl (fun c2 => ?_) (fun c2 => ?_)
  rotate_left
  · have e2 := hy.resolve_right c2
    rw [show duB T e W x.1 y = (false, y.2, W) from if_pos e2]
    refine a_s rfl rfl ?_
    exact a_zret rfl rfl rfl (QH.no f12 (z2 e2))
  have n2 : ¬ y.1 = -1 := fun z => by
    rw [z] at c2
    exact absurd c2 (by decide)
  obtain ⟨q2, b2⟩ := g2 n2
  rw [show duB T e W x.1 y = duC T e W x.1 y.1 (optP T e 6 0 99 0 y.2) from if_neg n2]
  exact h_du51 hw hW h12' hT ⟨f12, q2, b2, (funext fun k => (Fm.tr f1 f2) 421 k rfl).trans h421⟩
theorem h_readStreetLine (hw : WdS S) (hT : I 426 = T) (h12 : I 420 12 = nI b) (hbp : b ≤ p) (hq : Pp e p I) (hp1 : p = rn T e 1 b) (h421 : I 421 = W) (hW : WOk W) : Sp S m_X12_readStreetLine 22 0 0 [.ref 420] (hp I L w1 w2 t) (QH T e (linP T e b W) I L w1 w2 t) nX := by
  have hi : ∀ k, k < 27 → isW (I 426) b (p - b) k = isWd T e b k := fun k hk => by
    rw [hT, hp1]
    exact isW_wd hk
  have hn : ∀ {k}, isWd T e b k = true → rn T e 4 p = nx T e b := fun {k} z => by
    rw [hp1, ← en_1 (of_decide_eq_true z).1]
    rfl
  refine Sp_of ok_X12_readStreetLine rfl rfl ?_
  show AW S m_X12_readStreetLine 22 _ _ 0 0 0 [some (.ref 420)] [] (hp I L w1 w2 t)
  refine a_l0 rfl rfl rfl ?_
  refine a_ldcs (q := 130 + 0) rfl (hw.ld (i := 0) (by decide)) ?_
  refine a_eV1 rfl lX12_109 mo_X12_isWord (h_isWord (k := 0) hw (by decide) h12 hbp hq) rfl rfl rfl ⟨12, _, rfl, rfl, rfl⟩ rfl ?_
  obtain ⟨z, cz⟩ : ∃ z, isWd T e b 0 = z := ⟨_, rfl⟩
  refine a_top (y := bI z) (congrArg bI ((hi 0 (by decide)).trans cz)) ?_
  cases z with
  | true =>
    refine a_if_eq rfl (fun z => absurd z (by decide)) (fun _ => ?_)
    rw [show linP T e b W = perP T e b W from if_pos cz]
    refine a_l0 rfl rfl rfl ?_
    refine a_gV rfl lX12_141 mo_X12_readPerson (h_readPerson hw hT hq (hn cz) h12 h421 hW) rfl rfl rfl ⟨12, _, rfl, rfl, rfl⟩ rfl (fun v' h' hv => ?_)
    obtain ⟨rfl, J, p', rfl, y, n⟩ := hv
    exact a_zret rfl rfl (bI_nar _) ⟨rfl, J, p', rfl, y, n⟩
  | false =>
  have n0 : ¬ isWd T e b 0 = true := by rw [cz]; exact Bool.false_ne_true
  clear cz
  refine a_if_eq rfl (fun _ => ?_) (fun z => absurd rfl z)
  refine a_l0 rfl rfl rfl ?_
  refine a_ldcs (q := 130 + 3) rfl (hw.ld (i := 3) (by decide)) ?_
  refine a_eV1 rfl lX12_109 mo_X12_isWord (h_isWord (k := 3) hw (by decide) h12 hbp hq) rfl rfl rfl ⟨12, _, rfl, rfl, rfl⟩ rfl ?_
  obtain ⟨z, cz⟩ : ∃ z, isWd T e b 3 = z := ⟨_, rfl⟩
  refine a_top (y := bI z) (congrArg bI ((hi 3 (by decide)).trans cz)) ?_
  cases z with
  | true =>
    refine a_if_eq rfl (fun z => absurd z (by decide)) (fun _ => ?_)
    rw [show linP T e b W = dutP T e b W from (if_neg n0).trans (if_pos cz)]
    refine a_l0 rfl rfl rfl ?_
    refine a_gV rfl lX12_147 mo_X12_readDuty (h_readDuty hw hT hq (hn cz) h12 h421 hW) rfl rfl rfl ⟨12, _, rfl, rfl, rfl⟩ rfl (fun v' h' hv => ?_)
    obtain ⟨rfl, J, p', rfl, y, n⟩ := hv
    exact a_zret rfl rfl (bI_nar _) ⟨rfl, J, p', rfl, y, n⟩
  | false =>
  have n3 : ¬ isWd T e b 3 = true := by rw [cz]; exact Bool.false_ne_true
  clear cz
  refine a_if_eq rfl (fun _ => ?_) (fun z => absurd rfl z)
  refine a_l0 rfl rfl rfl ?_
  refine a_ldcs (q := 130 + 9) rfl (hw.ld (i := 9) (by decide)) ?_
  refine a_eV1 rfl lX12_109 mo_X12_isWord (h_isWord (k := 9) hw (by decide) h12 hbp hq) rfl rfl rfl ⟨12, _, rfl, rfl, rfl⟩ rfl ?_
  obtain ⟨z, cz⟩ : ∃ z, isWd T e b 9 = z := ⟨_, rfl⟩
  refine a_top (y := bI z) (congrArg bI ((hi 9 (by decide)).trans cz)) ?_
  cases z with
  | true =>
    refine a_if_eq rfl (fun z => absurd z (by decide)) (fun _ => ?_)
    rw [show linP T e b W = forP T e (nx T e b) W from (if_neg n0).trans ((if_neg n3).trans (if_pos cz))]
    refine a_l0 rfl rfl rfl ?_
    refine a_gV rfl lX12_152 mo_X12_readForgotten (h_readForgotten (b := nx T e b) hT hq (hn cz) h421 hW) rfl rfl rfl ⟨12, _, rfl, rfl, rfl⟩ rfl (fun v' h' hv => ?_)
    obtain ⟨rfl, J, p', rfl, y, n⟩ := hv
    exact a_zret rfl rfl (bI_nar _) ⟨rfl, J, p', rfl, y, n⟩
  | false =>
  have n9 : ¬ isWd T e b 9 = true := by rw [cz]; exact Bool.false_ne_true
  clear cz
  refine a_if_eq rfl (fun _ => ?_) (fun z => absurd rfl z)
  refine a_l0 rfl rfl rfl ?_
  refine a_ldcs (q := 130 + 10) rfl (hw.ld (i := 10) (by decide)) ?_
  refine a_eV1 rfl lX12_109 mo_X12_isWord (h_isWord (k := 10) hw (by decide) h12 hbp hq) rfl rfl rfl ⟨12, _, rfl, rfl, rfl⟩ rfl ?_
  obtain ⟨z, cz⟩ : ∃ z, isWd T e b 10 = z := ⟨_, rfl⟩
  refine a_top (y := bI z) (congrArg bI ((hi 10 (by decide)).trans cz)) ?_
  cases z with
  | true =>
    refine a_if_eq rfl (fun z => absurd z (by decide)) (fun _ => ?_)
    rw [show linP T e b W = setP T e (nx T e b) W 6 0 100 from (if_neg n0).trans ((if_neg n3).trans ((if_neg n9).trans (if_pos cz)))]
    refine a_l0 rfl rfl rfl ?_
    refine a_s rfl rfl ?_
    refine a_s rfl rfl ?_
    refine a_s rfl rfl ?_
    refine a_gV rfl lX12_157 mo_X12_readNumber (h_readNumber (i := 6) (b := nx T e b) hT hq (hn cz) h421 (by decide) (by decide) (by decide)) rfl rfl rfl ⟨12, _, rfl, rfl, rfl⟩ rfl (fun v' h' hv => ?_)
    obtain ⟨rfl, J, p', rfl, y, n⟩ := hv
    exact a_zret rfl rfl (bI_nar _) ⟨rfl, J, p', rfl, y, n⟩
  | false =>
  have n10 : ¬ isWd T e b 10 = true := by rw [cz]; exact Bool.false_ne_true
  clear cz
  refine a_if_eq rfl (fun _ => ?_) (fun z => absurd rfl z)
  refine a_l0 rfl rfl rfl ?_
  refine a_ldcs (q := 130 + 11) rfl (hw.ld (i := 11) (by decide)) ?_
  refine a_eV1 rfl lX12_109 mo_X12_isWord (h_isWord (k := 11) hw (by decide) h12 hbp hq) rfl rfl rfl ⟨12, _, rfl, rfl, rfl⟩ rfl ?_
  obtain ⟨z, cz⟩ : ∃ z, isWd T e b 11 = z := ⟨_, rfl⟩
  refine a_top (y := bI z) (congrArg bI ((hi 11 (by decide)).trans cz)) ?_
  cases z with
  | true =>
    refine a_if_eq rfl (fun z => absurd z (by decide)) (fun _ => ?_)
    rw [show linP T e b W = setP T e (nx T e b) W 7 1 9 from (if_neg n0).trans ((if_neg n3).trans ((if_neg n9).trans ((if_neg n10).trans (if_pos cz))))]
    refine a_l0 rfl rfl rfl ?_
    refine a_s rfl rfl ?_
    refine a_s rfl rfl ?_
    refine a_s rfl rfl ?_
    refine a_gV rfl lX12_157 mo_X12_readNumber (h_readNumber (i := 7) (b := nx T e b) hT hq (hn cz) h421 (by decide) (by decide) (by decide)) rfl rfl rfl ⟨12, _, rfl, rfl, rfl⟩ rfl (fun v' h' hv => ?_)
    obtain ⟨rfl, J, p', rfl, y, n⟩ := hv
    exact a_zret rfl rfl (bI_nar _) ⟨rfl, J, p', rfl, y, n⟩
  | false =>
  have n11 : ¬ isWd T e b 11 = true := by rw [cz]; exact Bool.false_ne_true
  clear cz
  refine a_if_eq rfl (fun _ => ?_) (fun z => absurd rfl z)
  refine a_l0 rfl rfl rfl ?_
  refine a_ldcs (q := 130 + 12) rfl (hw.ld (i := 12) (by decide)) ?_
  refine a_eV1 rfl lX12_109 mo_X12_isWord (h_isWord (k := 12) hw (by decide) h12 hbp hq) rfl rfl rfl ⟨12, _, rfl, rfl, rfl⟩ rfl ?_
  obtain ⟨z, cz⟩ : ∃ z, isWd T e b 12 = z := ⟨_, rfl⟩
  refine a_top (y := bI z) (congrArg bI ((hi 12 (by decide)).trans cz)) ?_
  cases z with
  | true =>
    refine a_if_eq rfl (fun z => absurd z (by decide)) (fun _ => ?_)
    rw [show linP T e b W = setP T e (nx T e b) W 8 0 50 from (if_neg n0).trans ((if_neg n3).trans ((if_neg n9).trans ((if_neg n10).trans ((if_neg n11).trans (if_pos cz)))))]
    refine a_l0 rfl rfl rfl ?_
    refine a_s rfl rfl ?_
    refine a_s rfl rfl ?_
    refine a_s rfl rfl ?_
    refine a_gV rfl lX12_157 mo_X12_readNumber (h_readNumber (i := 8) (b := nx T e b) hT hq (hn cz) h421 (by decide) (by decide) (by decide)) rfl rfl rfl ⟨12, _, rfl, rfl, rfl⟩ rfl (fun v' h' hv => ?_)
    obtain ⟨rfl, J, p', rfl, y, n⟩ := hv
    exact a_zret rfl rfl (bI_nar _) ⟨rfl, J, p', rfl, y, n⟩
  | false =>
  have n12 : ¬ isWd T e b 12 = true := by rw [cz]; exact Bool.false_ne_true
  clear cz
  refine a_if_eq rfl (fun _ => ?_) (fun z => absurd rfl z)
  refine a_l0 rfl rfl rfl ?_
  refine a_ldcs (q := 130 + 13) rfl (hw.ld (i := 13) (by decide)) ?_
  refine a_eV1 rfl lX12_109 mo_X12_isWord (h_isWord (k := 13) hw (by decide) h12 hbp hq) rfl rfl rfl ⟨12, _, rfl, rfl, rfl⟩ rfl ?_
  obtain ⟨z, cz⟩ : ∃ z, isWd T e b 13 = z := ⟨_, rfl⟩
  refine a_top (y := bI z) (congrArg bI ((hi 13 (by decide)).trans cz)) ?_
  cases z with
  | true =>
    refine a_if_eq rfl (fun z => absurd z (by decide)) (fun _ => ?_)
    rw [show linP T e b W = setP T e (nx T e b) W 4 1 30 from (if_neg n0).trans ((if_neg n3).trans ((if_neg n9).trans ((if_neg n10).trans ((if_neg n11).trans ((if_neg n12).trans (if_pos cz))))))]
    refine a_l0 rfl rfl rfl ?_
    refine a_s rfl rfl ?_
    refine a_s rfl rfl ?_
    refine a_s rfl rfl ?_
    refine a_gV rfl lX12_157 mo_X12_readNumber (h_readNumber (i := 4) (b := nx T e b) hT hq (hn cz) h421 (by decide) (by decide) (by decide)) rfl rfl rfl ⟨12, _, rfl, rfl, rfl⟩ rfl (fun v' h' hv => ?_)
    obtain ⟨rfl, J, p', rfl, y, n⟩ := hv
    exact a_zret rfl rfl (bI_nar _) ⟨rfl, J, p', rfl, y, n⟩
  | false =>
  have n13 : ¬ isWd T e b 13 = true := by rw [cz]; exact Bool.false_ne_true
  clear cz
  refine a_if_eq rfl (fun _ => ?_) (fun z => absurd rfl z)
  refine a_l0 rfl rfl rfl ?_
  refine a_ldcs (q := 130 + 14) rfl (hw.ld (i := 14) (by decide)) ?_
  refine a_eV1 rfl lX12_109 mo_X12_isWord (h_isWord (k := 14) hw (by decide) h12 hbp hq) rfl rfl rfl ⟨12, _, rfl, rfl, rfl⟩ rfl ?_
  obtain ⟨z, cz⟩ : ∃ z, isWd T e b 14 = z := ⟨_, rfl⟩
  refine a_top (y := bI z) (congrArg bI ((hi 14 (by decide)).trans cz)) ?_
  cases z with
  | true =>
    refine a_if_eq rfl (fun z => absurd z (by decide)) (fun _ => ?_)
    rw [show linP T e b W = setP T e (nx T e b) W 5 0 999 from (if_neg n0).trans ((if_neg n3).trans ((if_neg n9).trans ((if_neg n10).trans ((if_neg n11).trans ((if_neg n12).trans ((if_neg n13).trans (if_pos cz)))))))]
    refine a_l0 rfl rfl rfl ?_
    refine a_s rfl rfl ?_
    refine a_s rfl rfl ?_
    refine a_s rfl rfl ?_
    refine a_gV rfl lX12_157 mo_X12_readNumber (h_readNumber (i := 5) (b := nx T e b) hT hq (hn cz) h421 (by decide) (by decide) (by decide)) rfl rfl rfl ⟨12, _, rfl, rfl, rfl⟩ rfl (fun v' h' hv => ?_)
    obtain ⟨rfl, J, p', rfl, y, n⟩ := hv
    generalize setP T e (nx T e b) W 5 0 999 = r at y n ⊢
    obtain ⟨z, b', W'⟩ := r
    cases z with
    | false =>
      refine a_if_eq rfl (fun _ => ?_) (fun z => absurd rfl z)
      refine a_s rfl rfl ?_
      exact a_zret rfl rfl rfl ⟨rfl, J, p', rfl, y, n⟩
    | true =>
      refine a_if_eq rfl (fun z => absurd (show (1 : Int32) = 0 from z) (by decide)) (fun _ => ?_)
      refine a_s rfl rfl ?_
      refine a_goto rfl ?_
      exact a_zret rfl rfl rfl ⟨rfl, J, p', rfl, y, n⟩
  | false =>
  have n14 : ¬ isWd T e b 14 = true := by rw [cz]; exact Bool.false_ne_true
  clear cz
  refine a_if_eq rfl (fun _ => ?_) (fun z => absurd rfl z)
  refine a_s rfl rfl ?_
  rw [show linP T e b W = (false, b, W) from (if_neg n0).trans ((if_neg n3).trans ((if_neg n9).trans ((if_neg n10).trans ((if_neg n11).trans ((if_neg n12).trans ((if_neg n13).trans (if_neg n14)))))))]
  exact a_zret rfl rfl rfl (QH.no Fm.rf h12)
theorem h_readLineS (hw : WdS S) (hT : I 426 = T) (hq : Pp e p I) (hb : rn T e 4 p = b) (h421 : I 421 = W) (hW : WOk W) {i : Nat} (hi : i ≤ 14) : Sp S m_X12_readLine 60 0 0 [.ref 420, .int (bI true), .int (nI i)] (hp I L w1 w2 t) (QH T e (if i < 14 then linP T e b W else (false, b, W)) I L w1 w2 t) nX := by
  refine Sp_of ok_X12_readLine rfl rfl ?_
  show AW S m_X12_readLine 60 _ _ 0 0 0 [some (.ref 420), some (.int (bI true)), some (.int (nI i))] [] (hp I L w1 w2 t)
  refine a_l0 rfl rfl rfl ?_
  refine a_gV rfl lX12_106 mo_X12_letters (h_letters hq) rfl rfl rfl ⟨12, _, rfl, rfl, rfl⟩ rfl (fun v' h' hv => ?_)
  obtain ⟨rfl, J, rfl, h1⟩ := hv
  rw [hT, hb] at h1
  have f1 : Fm sS I J := Fm.mo (Rd.fm h1) sR_sS
  refine a_l2 rfl rfl rfl ?_
  refine a_l1 rfl rfl rfl ?_
  refine a_if_eq rfl (fun c => absurd c (by decide)) (fun _ => ?_)
  refine a_s rfl rfl ?_
  refine a_goto rfl ?_
  refine a_ic_ge rfl (fun c => ?_) (fun c => ?_)
  · have n14 := nI_ge_of (b := 14) c (by omega) (by decide)
    rw [if_neg (Nat.not_lt.mpr n14)]
    refine a_s rfl rfl ?_
    exact a_zret rfl rfl rfl (QH.no f1 (Rd.be h1))
  have i14 := nI_lt_of (b := 14) c (by omega) (by decide)
  rw [if_pos i14]
  refine a_l1 rfl rfl rfl ?_
  refine a_if_eq rfl (fun c => absurd c (by decide)) (fun _ => ?_)
  refine a_l0 rfl rfl rfl ?_
  refine a_gV rfl lX12_226 mo_X12_readStreetLine (h_readStreetLine hw ((Rd.T h1).trans hT) (Rd.be h1) (Rd.bp h1) (Rd.pp h1) rfl ((Rd.w h1).trans h421) hW) rfl rfl rfl ⟨12, _, rfl, rfl, rfl⟩ rfl (fun v' h' hv => ?_)
  replace hv := QH.be f1 hv
  obtain ⟨rfl, J2, p2, rfl, y, n⟩ := hv
  generalize linP T e b W = r at y n ⊢
  obtain ⟨z, b', W'⟩ := r
  cases z with
  | false =>
    refine a_if_eq rfl (fun _ => ?_) (fun z => absurd rfl z)
    refine a_s rfl rfl ?_
    exact a_zret rfl rfl rfl ⟨rfl, J2, p2, rfl, y, n⟩
  | true =>
    refine a_if_eq rfl (fun z => absurd (show (1 : Int32) = 0 from z) (by decide)) (fun _ => ?_)
    refine a_goto rfl ?_
    refine a_s rfl rfl ?_
    refine a_goto rfl ?_
    exact a_zret rfl rfl rfl ⟨rfl, J2, p2, rfl, y, n⟩
end T79o
end
section
/-! ===== the ranges of a street's numbers; lines of a text keep them ===== -/
section P79p
def Nb (x : Int32) (m : Nat) : Prop := ∃ k, k ≤ m ∧ x = nI k
def Nc (x : Int32) (l m : Nat) : Prop := ∃ k, l ≤ k ∧ k ≤ m ∧ x = nI k
/-- a person -/
def RgP (W : Nat → Int32) (p : Nat) : Prop := Nb (W (11 + 2 * p)) 15 ∧ Nb (W (11 + 2 * p + 1)) 9
/-- a duty: done, if none is left -/
def RgD (np nd : Nat) (W : Nat → Int32) (d : Nat) : Prop := (∃ j, j < np ∧ W (23 + 6 * d + 0) = nI j) ∧ (∃ l, l ≤ 99 ∧ W (23 + 6 * d + 1) = nI l ∧ (W (23 + 6 * d + 5) = 1 ↔ l = 0)) ∧ Nb (W (23 + 6 * d + 2)) 99 ∧ (W (23 + 6 * d + 3) = -1 ∨ Nb (W (23 + 6 * d + 3)) 5) ∧ (W (23 + 6 * d + 4) = -1 ∨ ∃ k, k < nd ∧ W (23 + 6 * d + 4) = nI k) ∧ Nb (W (23 + 6 * d + 5)) 2
def RgF (W : Nat → Int32) : Prop := Nb (W 2) 12 ∧ Nc (W 4) 1 30 ∧ Nb (W 5) 9999 ∧ Nb (W 6) 100 ∧ Nc (W 7) 1 9 ∧ Nb (W 8) 50
def Rg (W : Nat → Int32) : Prop := WOk W ∧ RgF W ∧ (∀ p, p < pn W → RgP W p) ∧ ∀ d, d < dn W → RgD (pn W) (dn W) W d
variable {T : Nat → Int32} {e b : Nat} {W : Nat → Int32}
theorem RgP.eq {W' : Nat → Int32} {p : Nat} (h : RgP W p) (e0 : W' (11 + 2 * p) = W (11 + 2 * p)) (e1 : W' (11 + 2 * p + 1) = W (11 + 2 * p + 1)) : RgP W' p := by
  unfold RgP
  rw [e0, e1]
  exact h
theorem RgD.eq {W' : Nat → Int32} {np nd d : Nat} (h : RgD np nd W d) (f : ∀ k, k < 6 → W' (23 + 6 * d + k) = W (23 + 6 * d + k)) : RgD np nd W' d := by
  unfold RgD
  rw [f 0 (by decide), f 1 (by decide), f 2 (by decide), f 3 (by decide), f 4 (by decide), f 5 (by decide)]
  exact h
theorem RgD.mo {np nd np' nd' d : Nat} (h : RgD np nd W d) (h1 : np ≤ np') (h2 : nd ≤ nd') : RgD np' nd' W d := by
  obtain ⟨⟨j, a1, a2⟩, a3, a4, a5, a6, a7⟩ := h
  refine ⟨⟨j, by omega, a2⟩, a3, a4, a5, ?_, a7⟩
  rcases a6 with z | ⟨k, z1, z2⟩
  · exact Or.inl z
  · exact Or.inr ⟨k, by omega, z2⟩
theorem RgF.eq {W' : Nat → Int32} (h : RgF W) (f : ∀ k, k < 9 → 2 ≤ k → W' k = W k) : RgF W' := by
  unfold RgF
  rw [f 2 (by decide) (by decide), f 4 (by decide) (by decide), f 5 (by decide) (by decide), f 6 (by decide) (by decide), f 7 (by decide) (by decide), f 8 (by decide) (by decide)]
  exact h
theorem Rg.of {np nd : Nat} (h1 : np ≤ 6) (h2 : nd ≤ 12) (h3 : W 0 = nI np) (h4 : W 1 = nI nd) (h5 : RgF W) (h6 : ∀ p, p < np → RgP W p) (h7 : ∀ d, d < nd → RgD np nd W d) : Rg W := by
  obtain ⟨w, e0, e1⟩ := WOk.of h1 h2 h3 h4
  refine ⟨w, h5, fun p hp => h6 p (by omega), fun d hd => ?_⟩
  rw [e0, e1]
  exact h7 d (by omega)
theorem Rg.so (h : Rg W) : SO (dn W) (pn W) W := by
  obtain ⟨⟨h1, h2, h3, h4⟩, ⟨-, -, -, -, ⟨k7, k71, k79, k7e⟩, -⟩, -, h7⟩ := h
  refine ⟨h2, h1, h4, h3, fun d hd => (h7 d hd).2.2.2.2.1, fun d hd => (h7 d hd).1, fun d hd => ?_, fun z => ?_⟩
  · rcases (h7 d hd).2.2.2.1 with z | ⟨k, z1, z2⟩
    · exact Or.inl z
    · exact Or.inr ⟨k, by omega, z2⟩
  · rw [k7e] at z
    have := (nI_eq0 (a := k7) (by omega)).mp z
    omega
theorem Rg.fr (h : Rg W) : FrW (pn W) W := fun p hp => by
  obtain ⟨k, k1, k2⟩ := (h.2.2.1 p hp).2
  exact ⟨k, k1, k2⟩
theorem nm_rg {l m : Nat} (hm : m < 2 ^ 31) (hl : l ≤ m) (h : ¬ nm T e b (nI l) (nI m) = -1) : Nc (nm T e b (nI l) (nI m)) l m := by
  obtain ⟨h1, h2, -, -⟩ := nm_in h
  generalize nm T e b (nI l) (nI m) = v at h1 h2 ⊢
  rw [Int32.le_iff_toInt_le, nI_toInt (by omega)] at h1 h2
  refine ⟨v.toInt.toNat, by omega, by omega, ?_⟩
  rw [← Int32.toInt_inj, nI_toInt (by omega)]
  omega
theorem Nc.nb {x : Int32} {l m : Nat} (h : Nc x l m) : Nb x m := by
  obtain ⟨k, -, k2, k3⟩ := h
  exact ⟨k, k2, k3⟩
theorem nbP_in {k : Nat} {lo hi : Int32} (h : ¬ (nbP T e k lo hi b).1 = -1) : (nbP T e k lo hi b).1 = nm T e (nx T e b) lo hi ∧ ¬ nm T e (nx T e b) lo hi = -1 := by
  unfold nbP at h ⊢
  by_cases c : isWd T e b k = true
  · rw [if_pos c] at h ⊢
    by_cases c2 : nm T e (nx T e b) lo hi = -1
    · rw [if_pos c2] at h
      exact absurd rfl h
    · rw [if_neg c2]
      exact ⟨rfl, c2⟩
  · rw [if_neg c] at h
    exact absurd rfl h
theorem optP_in {k : Nat} {lo hi d : Int32} (h : (optP T e k lo hi d b).1 = true) : (optP T e k lo hi d b).2.1 = d ∨ ((optP T e k lo hi d b).2.1 = nm T e (nx T e b) lo hi ∧ ¬ nm T e (nx T e b) lo hi = -1) := by
  unfold optP at h ⊢
  by_cases c : isWd T e b k = true
  · rw [if_pos c] at h ⊢
    by_cases c2 : nm T e (nx T e b) lo hi = -1
    · rw [if_pos c2] at h
      cases h
    · rw [if_neg c2]
      exact Or.inr ⟨rfl, c2⟩
  · rw [if_neg c]
    exact Or.inl rfl
theorem addPs_rg (h : Rg W) (h6 : ¬ W 0 = 6) {x y : Int32} (hx : Nb x 15) (hy : Nb y 9) : Rg (addPs W x y) := by
  obtain ⟨⟨h1, h2, h3, h4⟩, hf, hp, hd⟩ := h
  have n6 : pn W ≠ 6 := fun z => h6 (by rw [h3, z]; rfl)
  have e : ∀ k, k ≠ 0 → k ≠ 11 + 2 * pn W → k ≠ 11 + 2 * pn W + 1 → addPs W x y k = W k := fun k z0 z1 z2 => by
    show ud (ud (ud W (11 + 2 * pn W) x) (11 + 2 * pn W + 1) y) 0 (nI (pn W + 1)) k = _
    rw [ud_ne z0, ud_ne z2, ud_ne z1]
  refine Rg.of (np := pn W + 1) (nd := dn W) (by omega) h2 ud_at ((e 1 (by decide) (by omega) (by omega)).trans h4) (hf.eq fun k z1 z2 => e k (by omega) (by omega) (by omega)) (fun p z => ?_) (fun d z => ?_)
  · by_cases c : p = pn W
    · subst c
      refine ⟨?_, ?_⟩
      · rw [show addPs W x y (11 + 2 * pn W) = x by show ud (ud (ud W (11 + 2 * pn W) x) (11 + 2 * pn W + 1) y) 0 (nI (pn W + 1)) _ = _; rw [ud_ne (by omega), ud_ne (by omega), ud_at]]
        exact hx
      · rw [show addPs W x y (11 + 2 * pn W + 1) = y by show ud (ud (ud W (11 + 2 * pn W) x) (11 + 2 * pn W + 1) y) 0 (nI (pn W + 1)) _ = _; rw [ud_ne (by omega), ud_at]]
        exact hy
    · exact (hp p (by omega)).eq (e _ (by omega) (by omega) (by omega)) (e _ (by omega) (by omega) (by omega))
  · exact ((hd d z).eq fun k hk => e _ (by omega) (by omega) (by omega)).mo (by omega) (Nat.le_refl _)
theorem addDt_rg (h : Rg W) (h12 : ¬ W 1 = 12) {o l a t n : Int32} (ho : ∃ j, j < pn W ∧ o = nI j) (hl : Nc l 1 99) (ha : Nb a 99) (ht : t = -1 ∨ Nb t 5) (hn : n = -1 ∨ ∃ k, k < dn W ∧ n = nI k) : Rg (addDt W o l a t n) := by
  obtain ⟨⟨h1, h2, h3, h4⟩, hf, hp, hd⟩ := h
  have n12 : dn W ≠ 12 := fun z => h12 (by rw [h4, z]; rfl)
  have e : ∀ k, k ≠ 1 → (∀ i, i < 6 → k ≠ 23 + 6 * dn W + i) → addDt W o l a t n k = W k := fun k z0 z => by
    have z1 := z 0 (by decide)
    have z2 := z 1 (by decide)
    have z3 := z 2 (by decide)
    have z4 := z 3 (by decide)
    have z5 := z 4 (by decide)
    have z6 := z 5 (by decide)
    unfold addDt
    rw [ud_ne z0, ud_ne z6, ud_ne z5, ud_ne z4, ud_ne z3, ud_ne z2, ud_ne z1]
  refine Rg.of (np := pn W) (nd := dn W + 1) h1 (by omega) ((e 0 (by decide) (fun i hi => by omega)).trans h3) ud_at (hf.eq fun k z1 z2 => e k (by omega) (fun i hi => by omega)) (fun p z => ?_) (fun d z => ?_)
  · exact (hp p z).eq (e _ (by omega) (fun i hi => by omega)) (e _ (by omega) (fun i hi => by omega))
  · by_cases c : d = dn W
    · subst c
      have f0 : addDt W o l a t n (23 + 6 * dn W + 0) = o := by unfold addDt; rw [ud_ne (by omega), ud_ne (by omega), ud_ne (by omega), ud_ne (by omega), ud_ne (by omega), ud_ne (by omega), ud_at]
      have f1 : addDt W o l a t n (23 + 6 * dn W + 1) = l := by unfold addDt; rw [ud_ne (by omega), ud_ne (by omega), ud_ne (by omega), ud_ne (by omega), ud_ne (by omega), ud_at]
      have f2 : addDt W o l a t n (23 + 6 * dn W + 2) = a := by unfold addDt; rw [ud_ne (by omega), ud_ne (by omega), ud_ne (by omega), ud_ne (by omega), ud_at]
      have f3 : addDt W o l a t n (23 + 6 * dn W + 3) = t := by unfold addDt; rw [ud_ne (by omega), ud_ne (by omega), ud_ne (by omega), ud_at]
      have f4 : addDt W o l a t n (23 + 6 * dn W + 4) = n := by unfold addDt; rw [ud_ne (by omega), ud_ne (by omega), ud_at]
      have f5 : addDt W o l a t n (23 + 6 * dn W + 5) = 0 := by unfold addDt; rw [ud_ne (by omega), ud_at]
      unfold RgD
      rw [f0, f1, f2, f3, f4, f5]
      obtain ⟨k, k1, k2, k3⟩ := hl
      refine ⟨ho, ⟨k, k2, k3, ⟨fun z => absurd z (by decide), fun z => by omega⟩⟩, ha, ht, ?_, ⟨0, by decide, rfl⟩⟩
      rcases hn with z | ⟨k, z1, z2⟩
      · exact Or.inl z
      · exact Or.inr ⟨k, by omega, z2⟩
    · exact ((hd d (by omega)).eq fun k hk => e _ (by omega) (fun i hi => by omega)).mo (Nat.le_refl _) (by omega)
theorem perP_rg (h : Rg W) (hz : (perP T e b W).1 = true) : Rg (perP T e b W).2.2 := by
  unfold perP at hz ⊢
  by_cases c : W 0 = 6
  · rw [if_pos c] at hz
    cases hz
  rw [if_neg c] at hz ⊢
  unfold perB at hz ⊢
  by_cases c2 : (nbP T e 1 0 15 (nx T e b)).1 = -1
  · rw [if_pos c2] at hz
    cases hz
  rw [if_neg c2] at hz ⊢
  unfold perC at hz ⊢
  by_cases c3 : (nbP T e 2 0 9 (nbP T e 1 0 15 (nx T e b)).2).1 = -1
  · rw [if_pos c3] at hz
    cases hz
  rw [if_neg c3] at hz ⊢
  obtain ⟨i1, i2⟩ := nbP_in c2
  obtain ⟨j1, j2⟩ := nbP_in c3
  refine addPs_rg h c ?_ ?_
  · rw [i1]
    exact Nc.nb (nm_rg (l := 0) (m := 15) (by decide) (by decide) i2)
  · rw [j1]
    exact Nc.nb (nm_rg (l := 0) (m := 9) (by decide) (by decide) j2)
theorem dutP_rg (h : Rg W) (hz : (dutP T e b W).1 = true) : Rg (dutP T e b W).2.2 := by
  have hw := h.1
  unfold dutP at hz ⊢
  by_cases c : W 1 = 12
  · rw [if_pos c] at hz
    cases hz
  rw [if_neg c] at hz ⊢
  have i1 := nbP_in (T := T) (e := e) (b := nx T e b) (k := 4) (lo := 0) (hi := W 0 - 1)
  have i2 := nm_ix (T := T) (e := e) (b := nx T e (nx T e b)) (n := pn W) (by have := hw.1; omega)
  rw [← hw.2.2.1] at i2
  generalize nbP T e 4 0 (W 0 - 1) (nx T e b) = x at hz i1 ⊢
  unfold duA at hz ⊢
  by_cases c2 : x.1 = -1
  · rw [if_pos c2] at hz
    cases hz
  rw [if_neg c2] at hz ⊢
  obtain ⟨i3, i4⟩ := i1 c2
  have j1 := nbP_in (T := T) (e := e) (b := x.2) (k := 5) (lo := 1) (hi := 99)
  have j2 := nm_rg (T := T) (e := e) (b := nx T e x.2) (l := 1) (m := 99) (by decide) (by decide)
  generalize nbP T e 5 1 99 x.2 = y at hz j1 ⊢
  unfold duB at hz ⊢
  by_cases c3 : y.1 = -1
  · rw [if_pos c3] at hz
    cases hz
  rw [if_neg c3] at hz ⊢
  obtain ⟨j3, j4⟩ := j1 c3
  have k1 := optP_in (T := T) (e := e) (b := y.2) (k := 6) (lo := 0) (hi := 99) (d := 0)
  have k2 := nm_rg (T := T) (e := e) (b := nx T e y.2) (l := 0) (m := 99) (by decide) (by decide)
  generalize optP T e 6 0 99 0 y.2 = u at hz k1 ⊢
  unfold duC at hz ⊢
  by_cases c4 : u.1 = true
  rotate_left
  · rw [if_neg c4] at hz
    cases hz
  rw [if_pos c4] at hz ⊢
  have l1 := optP_in (T := T) (e := e) (b := u.2.2) (k := 7) (lo := 0) (hi := 5) (d := -1)
  have l2 := nm_rg (T := T) (e := e) (b := nx T e u.2.2) (l := 0) (m := 5) (by decide) (by decide)
  generalize optP T e 7 0 5 (-1) u.2.2 = v at hz l1 ⊢
  unfold duD at hz ⊢
  by_cases c5 : v.1 = true
  rotate_left
  · rw [if_neg c5] at hz
    cases hz
  rw [if_pos c5] at hz ⊢
  have m1 := optP_in (T := T) (e := e) (b := v.2.2) (k := 8) (lo := 0) (hi := W 1 - 1) (d := -1)
  have m2 := nm_ix (T := T) (e := e) (b := nx T e v.2.2) (n := dn W) hw.2.1
  rw [← hw.2.2.2] at m2
  generalize optP T e 8 0 (W 1 - 1) (-1) v.2.2 = w at hz m1 ⊢
  unfold duE at hz ⊢
  by_cases c6 : w.1 = true
  rotate_left
  · rw [if_neg c6] at hz
    cases hz
  rw [if_pos c6] at hz ⊢
  refine addDt_rg h c ?_ ?_ ?_ ?_ ?_
  · rw [i3]
    exact i2 i4
  · rw [j3]
    exact j2 j4
  · rcases k1 c4 with z | ⟨z1, z2⟩
    · exact ⟨0, by decide, z⟩
    · rw [z1]
      exact Nc.nb (k2 z2)
  · rcases l1 c5 with z | ⟨z1, z2⟩
    · exact Or.inl z
    · rw [z1]
      exact Or.inr (Nc.nb (l2 z2))
  · rcases m1 c6 with z | ⟨z1, z2⟩
    · exact Or.inl z
    · rw [z1]
      exact Or.inr (m2 z2)
theorem forP_rg (h : Rg W) (hz : (forP T e b W).1 = true) : Rg (forP T e b W).2.2 := by
  unfold forP at hz ⊢
  by_cases c : nm T e b 0 (W 1 - 1) = -1
  · rw [if_pos c] at hz
    cases hz
  rw [if_neg c] at hz ⊢
  obtain ⟨⟨h1, h2, h3, h4⟩, hf, hp, hd⟩ := h
  obtain ⟨j, hj, ej⟩ := nm_ix h2 (by rw [← h4]; exact c)
  rw [← h4] at ej
  rw [ej, nI_clamp (by omega)] at hz ⊢
  by_cases c2 : W (23 + 6 * j + 5) = 0
  rotate_left
  · rw [if_neg c2] at hz
    cases hz
  rw [if_pos c2] at hz ⊢
  have e : ∀ k, k ≠ 23 + 6 * j + 5 → ud W (23 + 6 * j + 5) 2 k = W k := fun k hk => ud_ne hk
  refine Rg.of h1 h2 ((e 0 (by omega)).trans h3) ((e 1 (by omega)).trans h4) (hf.eq fun k z1 z2 => e k (by omega)) (fun p z => (hp p z).eq (e _ (by omega)) (e _ (by omega))) (fun d z => ?_)
  by_cases cd : d = j
  · subst cd
    obtain ⟨a1, ⟨l, a2, a3, a4⟩, a5, a6, a7, a8⟩ := hd d hj
    show RgD (pn W) (dn W) (ud W (23 + 6 * d + 5) 2) d
    unfold RgD
    rw [e (23 + 6 * d + 0) (by omega), e (23 + 6 * d + 1) (by omega), e (23 + 6 * d + 2) (by omega), e (23 + 6 * d + 3) (by omega), e (23 + 6 * d + 4) (by omega)]
    show _ ∧ (∃ l, l ≤ 99 ∧ _ ∧ (ud W (23 + 6 * d + 5) 2 (23 + 6 * d + 5) = 1 ↔ l = 0)) ∧ _ ∧ _ ∧ _ ∧ Nb (ud W (23 + 6 * d + 5) 2 (23 + 6 * d + 5)) 2
    rw [ud_at]
    refine ⟨a1, ⟨l, a2, a3, ⟨fun z => absurd z (by decide), fun z => ?_⟩⟩, a5, a6, a7, ⟨2, Nat.le_refl _, rfl⟩⟩
    have := a4.mpr z
    rw [c2] at this
    exact absurd this (by decide)
  · exact (hd d z).eq fun k hk => e _ (by omega)
theorem setP_rg (h : Rg W) {g : Nat} {l m : Nat} (hm : m < 2 ^ 31) (hl : l ≤ m) (hg : 2 ≤ g) (hg2 : g < 9) (hr : ∀ v, Nc v l m → RgF (ud W g v)) (hz : (setP T e b W g (nI l) (nI m)).1 = true) : Rg (setP T e b W g (nI l) (nI m)).2.2 := by
  unfold setP at hz ⊢
  by_cases c : nm T e b (nI l) (nI m) = -1
  · rw [if_pos c] at hz
    cases hz
  rw [if_neg c]
  obtain ⟨⟨h1, h2, h3, h4⟩, hf, hp, hd⟩ := h
  have e : ∀ k, k ≠ g → ud W g (nm T e b (nI l) (nI m)) k = W k := fun k hk => ud_ne hk
  exact Rg.of h1 h2 ((e 0 (by omega)).trans h3) ((e 1 (by omega)).trans h4) (hr _ (nm_rg hm hl c)) (fun p z => (hp p z).eq (e _ (by omega)) (e _ (by omega))) (fun d z => (hd d z).eq fun k hk => e _ (by omega))
theorem stgP_rg (h : Rg W) (hz : (stgP T e b W).1 = true) : Rg (stgP T e b W).2.2 := by
  obtain ⟨f2, f4, f5, f6, f7, f8⟩ := h.2.1
  have u : ∀ {g k : Nat} {v : Int32}, k ≠ g → ud W g v k = W k := fun z => ud_ne z
  unfold stgP at hz ⊢
  by_cases c : isWd T e b 10 = true
  · rw [if_pos c] at hz ⊢
    refine setP_rg (l := 0) (m := 100) h (by decide) (by decide) (by decide) (by decide) (fun v hv => ?_) hz
    unfold RgF
    rw [u (show 2 ≠ 6 by decide), u (show 4 ≠ 6 by decide), u (show 5 ≠ 6 by decide), ud_at, u (show 7 ≠ 6 by decide), u (show 8 ≠ 6 by decide)]
    exact ⟨f2, f4, f5, Nc.nb hv, f7, f8⟩
  rw [if_neg c] at hz ⊢
  by_cases c : isWd T e b 11 = true
  · rw [if_pos c] at hz ⊢
    refine setP_rg (l := 1) (m := 9) h (by decide) (by decide) (by decide) (by decide) (fun v hv => ?_) hz
    unfold RgF
    rw [u (show 2 ≠ 7 by decide), u (show 4 ≠ 7 by decide), u (show 5 ≠ 7 by decide), u (show 6 ≠ 7 by decide), ud_at, u (show 8 ≠ 7 by decide)]
    exact ⟨f2, f4, f5, f6, hv, f8⟩
  rw [if_neg c] at hz ⊢
  by_cases c : isWd T e b 12 = true
  · rw [if_pos c] at hz ⊢
    refine setP_rg (l := 0) (m := 50) h (by decide) (by decide) (by decide) (by decide) (fun v hv => ?_) hz
    unfold RgF
    rw [u (show 2 ≠ 8 by decide), u (show 4 ≠ 8 by decide), u (show 5 ≠ 8 by decide), u (show 6 ≠ 8 by decide), u (show 7 ≠ 8 by decide), ud_at]
    exact ⟨f2, f4, f5, f6, f7, Nc.nb hv⟩
  rw [if_neg c] at hz ⊢
  by_cases c : isWd T e b 13 = true
  · rw [if_pos c] at hz ⊢
    refine setP_rg (l := 1) (m := 30) h (by decide) (by decide) (by decide) (by decide) (fun v hv => ?_) hz
    unfold RgF
    rw [u (show 2 ≠ 4 by decide), ud_at, u (show 5 ≠ 4 by decide), u (show 6 ≠ 4 by decide), u (show 7 ≠ 4 by decide), u (show 8 ≠ 4 by decide)]
    exact ⟨f2, hv, f5, f6, f7, f8⟩
  rw [if_neg c] at hz ⊢
  by_cases c : isWd T e b 14 = true
  · rw [if_pos c] at hz ⊢
    refine setP_rg (l := 0) (m := 999) h (by decide) (by decide) (by decide) (by decide) (fun v hv => ?_) hz
    unfold RgF
    rw [u (show 2 ≠ 5 by decide), u (show 4 ≠ 5 by decide), ud_at, u (show 6 ≠ 5 by decide), u (show 7 ≠ 5 by decide), u (show 8 ≠ 5 by decide)]
    obtain ⟨k, k1, k2, k3⟩ := hv
    exact ⟨f2, f4, ⟨k, by omega, k3⟩, f6, f7, f8⟩
  rw [if_neg c] at hz
  cases hz
theorem linP_rg (h : Rg W) (hz : (linP T e b W).1 = true) : Rg (linP T e b W).2.2 := by
  unfold linP at hz ⊢
  by_cases c : isWd T e b 0 = true
  · rw [if_pos c] at hz ⊢; exact perP_rg h hz
  rw [if_neg c] at hz ⊢
  by_cases c : isWd T e b 3 = true
  · rw [if_pos c] at hz ⊢; exact dutP_rg h hz
  rw [if_neg c] at hz ⊢
  by_cases c : isWd T e b 9 = true
  · rw [if_pos c] at hz ⊢; exact forP_rg h hz
  rw [if_neg c] at hz ⊢
  exact stgP_rg h hz
theorem strsP_rg : ∀ (f b : Nat) (W : Nat → Int32), Rg W → (strsP T e f b W).1 = true → Rg (strsP T e f b W).2.2 := by
  intro f
  induction f with
  | zero => exact fun b W h hz => by cases hz
  | succ f ih =>
    intro b W h hz
    rw [strsP_s] at hz ⊢
    have hl := linP_rg (T := T) (e := e) (b := b) h
    generalize linP T e b W = r at hz hl ⊢
    by_cases c1 : r.1 = true
    · rw [if_pos c1] at hz ⊢
      by_cases c2 : r.2.1 < e
      · rw [if_pos c2] at hz ⊢
        by_cases c3 : sg T e r.2.1 59 = true
        · rw [if_pos c3] at hz ⊢
          exact ih _ _ (hl c1) hz
        · rw [if_neg c3] at hz
          cases hz
      · rw [if_neg c2]
        exact hl c1
    · rw [if_neg c1] at hz
      cases hz
theorem strP_rg (h : Rg W) (hz : (strP T e W).1 = true) : Rg (strP T e W).2.2 := by
  unfold strP at hz ⊢
  by_cases c : bg T e 0 < e
  · rw [if_pos c] at hz ⊢
    exact strsP_rg _ _ _ h hz
  · rw [if_neg c]
    exact h
end P79p
end
section
/-! ===== street, whole, on both sides ===== -/
section T79q
variable {S : aS} {I : Nat → Nat → Int32} {L : Nat → Nat → Int64} {w1 w2 t : Nat} {e b : Nat} {T W : Nat → Int32}
set_option maxRecDepth 100000
theorem perP_2 (hz : (perP T e b W).1 = true) : (perP T e b W).2.2 2 = W 2 := by
  unfold perP at hz ⊢
  by_cases c : W 0 = 6
  · rw [if_pos c] at hz
    cases hz
  rw [if_neg c] at hz ⊢
  generalize nbP T e 1 0 15 (nx T e b) = x at hz ⊢
  unfold perB at hz ⊢
  by_cases c2 : x.1 = -1
  · rw [if_pos c2] at hz
    cases hz
  rw [if_neg c2] at hz ⊢
  generalize nbP T e 2 0 9 x.2 = y at hz ⊢
  unfold perC at hz ⊢
  by_cases c3 : y.1 = -1
  · rw [if_pos c3] at hz
    cases hz
  rw [if_neg c3]
  show ud (ud (ud W (11 + 2 * pn W) x.1) (11 + 2 * pn W + 1) y.1) 0 (nI (pn W + 1)) 2 = W 2
  rw [ud_ne (by decide), ud_ne (by omega), ud_ne (by omega)]
theorem addDt_2 {o l a t n : Int32} : addDt W o l a t n 2 = W 2 := by
  unfold addDt
  rw [ud_ne (by decide), ud_ne (by omega), ud_ne (by omega), ud_ne (by omega), ud_ne (by omega), ud_ne (by omega), ud_ne (by omega)]
theorem dutP_2 (hz : (dutP T e b W).1 = true) : (dutP T e b W).2.2 2 = W 2 := by
  unfold dutP at hz ⊢
  by_cases c : W 1 = 12
  · rw [if_pos c] at hz
    cases hz
  rw [if_neg c] at hz ⊢
  generalize nbP T e 4 0 (W 0 - 1) (nx T e b) = x at hz ⊢
  unfold duA at hz ⊢
  by_cases c2 : x.1 = -1
  · rw [if_pos c2] at hz
    cases hz
  rw [if_neg c2] at hz ⊢
  generalize nbP T e 5 1 99 x.2 = y at hz ⊢
  unfold duB at hz ⊢
  by_cases c3 : y.1 = -1
  · rw [if_pos c3] at hz
    cases hz
  rw [if_neg c3] at hz ⊢
  generalize optP T e 6 0 99 0 y.2 = u at hz ⊢
  unfold duC at hz ⊢
  by_cases c4 : u.1 = true
  rotate_left
  · rw [if_neg c4] at hz
    cases hz
  rw [if_pos c4] at hz ⊢
  generalize optP T e 7 0 5 (-1) u.2.2 = v at hz ⊢
  unfold duD at hz ⊢
  by_cases c5 : v.1 = true
  rotate_left
  · rw [if_neg c5] at hz
    cases hz
  rw [if_pos c5] at hz ⊢
  generalize optP T e 8 0 (W 1 - 1) (-1) v.2.2 = w at hz ⊢
  unfold duE at hz ⊢
  by_cases c6 : w.1 = true
  rotate_left
  · rw [if_neg c6] at hz
    cases hz
  rw [if_pos c6]
  exact addDt_2 (t := v.2.1) (n := w.2.1)
theorem forP_2 (hz : (forP T e b W).1 = true) : (forP T e b W).2.2 2 = W 2 := by
  unfold forP at hz ⊢
  by_cases c : nm T e b 0 (W 1 - 1) = -1
  · rw [if_pos c] at hz
    cases hz
  rw [if_neg c] at hz ⊢
  by_cases c2 : W (23 + 6 * (nm T e b 0 (W 1 - 1)).toNatClampNeg + 5) = 0
  · rw [if_pos c2]
    show ud W (23 + 6 * (nm T e b 0 (W 1 - 1)).toNatClampNeg + 5) 2 2 = W 2
    exact ud_ne (by omega)
  · rw [if_neg c2] at hz
    cases hz
theorem setP_2 {g : Nat} {lo hi : Int32} (hg : 2 < g) (hz : (setP T e b W g lo hi).1 = true) : (setP T e b W g lo hi).2.2 2 = W 2 := by
  unfold setP at hz ⊢
  by_cases c : nm T e b lo hi = -1
  · rw [if_pos c] at hz
    cases hz
  rw [if_neg c]
  exact ud_ne (by omega)
theorem stgP_2 (hz : (stgP T e b W).1 = true) : (stgP T e b W).2.2 2 = W 2 := by
  unfold stgP at hz ⊢
  by_cases c : isWd T e b 10 = true
  · rw [if_pos c] at hz ⊢; exact setP_2 (by decide) hz
  rw [if_neg c] at hz ⊢
  by_cases c : isWd T e b 11 = true
  · rw [if_pos c] at hz ⊢; exact setP_2 (by decide) hz
  rw [if_neg c] at hz ⊢
  by_cases c : isWd T e b 12 = true
  · rw [if_pos c] at hz ⊢; exact setP_2 (by decide) hz
  rw [if_neg c] at hz ⊢
  by_cases c : isWd T e b 13 = true
  · rw [if_pos c] at hz ⊢; exact setP_2 (by decide) hz
  rw [if_neg c] at hz ⊢
  by_cases c : isWd T e b 14 = true
  · rw [if_pos c] at hz ⊢; exact setP_2 (by decide) hz
  rw [if_neg c] at hz
  cases hz
theorem linP_2 (hz : (linP T e b W).1 = true) : (linP T e b W).2.2 2 = W 2 := by
  unfold linP at hz ⊢
  by_cases c : isWd T e b 0 = true
  · rw [if_pos c] at hz ⊢; exact perP_2 hz
  rw [if_neg c] at hz ⊢
  by_cases c : isWd T e b 3 = true
  · rw [if_pos c] at hz ⊢; exact dutP_2 hz
  rw [if_neg c] at hz ⊢
  by_cases c : isWd T e b 9 = true
  · rw [if_pos c] at hz ⊢; exact forP_2 hz
  rw [if_neg c] at hz ⊢
  exact stgP_2 hz
theorem strsP_2 : ∀ (f b : Nat) (W : Nat → Int32), (strsP T e f b W).1 = true → (strsP T e f b W).2.2 2 = W 2 := by
  intro f
  induction f with
  | zero => exact fun b W hz => by cases hz
  | succ f ih =>
    intro b W hz
    rw [strsP_s] at hz ⊢
    have hl := linP_2 (T := T) (e := e) (b := b) (W := W)
    generalize linP T e b W = r at hz hl ⊢
    by_cases c1 : r.1 = true
    · rw [if_pos c1] at hz ⊢
      by_cases c2 : r.2.1 < e
      · rw [if_pos c2] at hz ⊢
        by_cases c3 : sg T e r.2.1 59 = true
        · rw [if_pos c3] at hz ⊢
          exact (ih _ _ hz).trans (hl c1)
        · rw [if_neg c3] at hz
          cases hz
      · rw [if_neg c2]
        exact hl c1
    · rw [if_neg c1] at hz
      cases hz
theorem strP_2 (hz : (strP T e W).1 = true) : (strP T e W).2.2 2 = W 2 := by
  unfold strP at hz ⊢
  by_cases c : bg T e 0 < e
  · rw [if_pos c] at hz ⊢
    exact strsP_2 _ _ _ hz
  · rw [if_neg c]
theorem strsP_ok : ∀ (f b : Nat) (W : Nat → Int32), WOk W → (strsP T e f b W).1 = true → WOk (strsP T e f b W).2.2 := by
  intro f
  induction f with
  | zero => exact fun b W _ hz => by cases hz
  | succ f ih =>
    intro b W h hz
    rw [strsP_s] at hz ⊢
    have hl := linP_ok (T := T) (e := e) (b := b) h
    generalize linP T e b W = r at hz hl ⊢
    by_cases c1 : r.1 = true
    · rw [if_pos c1] at hz ⊢
      by_cases c2 : r.2.1 < e
      · rw [if_pos c2] at hz ⊢
        by_cases c3 : sg T e r.2.1 59 = true
        · rw [if_pos c3] at hz ⊢
          exact ih _ _ (hl c1) hz
        · rw [if_neg c3] at hz
          cases hz
      · rw [if_neg c2]
        exact hl c1
    · rw [if_neg c1] at hz
      cases hz
theorem strP_ok (h : WOk W) (hz : (strP T e W).1 = true) : WOk (strP T e W).2.2 := by
  unfold strP at hz ⊢
  by_cases c : bg T e 0 < e
  · rw [if_pos c] at hz ⊢
    exact strsP_ok _ _ _ h hz
  · rw [if_neg c]
    exact h
theorem Sd.cp {a b m : Nat} (h : Sd I b W) (hm : 9 ≤ m) : Sd (cpS I a b m) a W := by
  obtain ⟨h1, h2, h3⟩ := h
  refine ⟨fun x hx => ?_, fun p hp => ?_, fun d hd k hk => ?_⟩
  · rw [cpS_in0 (by omega)]
    exact h1 x hx
  · rw [cpS_in (i := 1) (by omega), cpS_in (i := 2) (by omega)]
    exact h2 p hp
  · rw [show a + 3 + k = a + (3 + k) by omega, cpS_in (i := 3 + k) (by omega), show b + (3 + k) = b + 3 + k by omega]
    exact h3 d hd k hk
/-- what street may change in the class -/
def sJ (q k : Nat) : Bool := sO q k || ((Nat.beq q 200 && (Nat.beq k 3 || Nat.beq k 13)) || ((Nat.beq q 201 && Nat.beq k 1) || (Nat.ble 235 q && Nat.ble q 243)))
theorem sO_sJ : ∀ q k, sO q k = true → sJ q k = true := fun q k h => by
  unfold sJ
  rw [h]
  rfl
theorem sJ_hi {q k : Nat} (h : 244 ≤ q) : sJ q k = false := by
  have e1 : Nat.ble q 217 = false := by
    cases hb : Nat.ble q 217 with
    | false => rfl
    | true => exact absurd (Nat.le_of_ble_eq_true hb) (by omega)
  have e2 : Nat.ble q 243 = false := by
    cases hb : Nat.ble q 243 with
    | false => rfl
    | true => exact absurd (Nat.le_of_ble_eq_true hb) (by omega)
  simp [sJ, sO, e1, e2, beqF (show q ≠ 200 by omega), beqF (show q ≠ 201 by omega)]
theorem CI.st {J : Nat → Nat → Int32} (h : CI I) (f : Fm sJ I J) (k : Dk J) (k2 : ∃ nd, nd ≤ 12 ∧ J 235 3 = nI nd) : CI J := fun a ha h2 => by
  by_cases c1 : a = 209
  · rw [c1]
    exact k
  · by_cases c2 : a = 235
    · rw [c2]
      exact k2
    · rw [f a 3 (sJ_hi (by simp only [stp, stps, List.mem_cons, List.not_mem_nil, or_false] at ha; omega))]
      exact h a ha h2
theorem f_streetC (hw : WdS S) (he : I 201 1 = nI e) (h4 : e ≤ 400) (hbt : BtT T) (hT : I 202 = T) (hm : I 203 1 = 14) (hci : CI I) (hD : Sd I 235 W) (hW : WOk W) (h2 : ∃ k, k ≤ 12 ∧ W 2 = nI k) : Sp S m_X11_street 21 1 6 [.ref 200] (hp I L w1 w2 t) (fun v h' => v = some (.int (W 2 + 1)) ∧ (strP T e W).1 = true ∧ ¬ W 2 = 12 ∧ ∃ J w, h' = hp J L w w2 t ∧ WK w ∧ CI J ∧ Fm sJ I J ∧ J 201 1 = 0 ∧ J 200 3 = -1 ∧ J 200 13 = 0 ∧ Sd J 235 (ud (strP T e W).2.2 2 (W 2 + 1))) (fun E h' => ∃ J w, h' = hp J L w w2 0 ∧ WK w ∧ CI J ∧ Fm sJ I J ∧ J 201 1 = 0 ∧ J 200 13 = I 200 13 ∧ Sd J 235 W ∧ ((E = exN 1 ∧ (strP T e W).1 = false ∧ J 200 3 = nI (strP T e W).2.1) ∨ (E = exN 3 ∧ (strP T e W).1 = true ∧ W 2 = 12 ∧ J 200 3 = -1))) := by
  obtain ⟨tx, tx12, etx⟩ := h2
  refine Sp_of ok_X11_street rfl rfl ?_
  show AW S m_X11_street 21 _ _ 1 6 0 [some (.ref 200)] [] (hp I L w1 w2 t)
  refine a_l0 rfl rfl rfl ?_
  refine a_getq rfl gfX11_19_11 rfl (rfl) ?_
  refine a_getq rfl gfX11_75_6 rfl (rfl) ?_
  refine a_l0 rfl rfl rfl ?_
  refine a_getq rfl gfX11_37_11 rfl (rfl) ?_
  refine a_eV0 rfl lX11_78 mo_X5_copyFrom (sp_X5_copyFrom (a := 209) (b := 235) (by decide) (by decide) (by decide)) rfl rfl rfl ⟨5, _, rfl, rfl, rfl⟩ rfl ?_
  refine a_l0 rfl rfl rfl ?_
  refine a_l0 rfl rfl rfl ?_
  refine a_getq rfl gfX11_19_11 rfl (rfl) ?_
  refine a_l0 rfl rfl rfl ?_
  refine a_getq rfl gfX11_10_11 rfl (rfl) ?_
  have g1 : ∀ q, ¬ (209 ≤ q ∧ q < 209 + 9) → cpS I 209 235 9 q = I q := fun q hq => cpS_out hq
  refine a_callU rfl lu_82 dc_readLines mo_X8_readLines hx_rl (s_readLines hw ((congrFun (g1 201 (by decide)) 1).trans he) h4 (by rw [g1 202 (by decide), hT]; exact hbt) ((congrFun (g1 203 (by decide)) 1).trans hm) (Sd.cp hD (Nat.le_refl _)) hW) rfl rfl rfl ⟨6, _, rfl, rfl, rfl⟩ rfl (fun v' h' hv => ?_) (fun _ _ z => False.elim z)
  rw [g1 202 (by decide), hT] at hv
  obtain ⟨rfl, J, w, rfl, hww, hle, hF, hk, hy⟩ := hv
  have fJ : Fm sJ I J := fun q k hq => by
    have hq' : sO q k = false := by
      cases hb : sO q k with
      | false => rfl
      | true => rw [sO_sJ q k hb] at hq; cases hq
    rw [hF q k hq', g1 q (by have := sO_in hq'; omega)]
  have rowJ : ∀ q, 218 ≤ q → J q = I q := fun q hq => by
    rw [show J q = cpS I 209 235 9 q from funext fun k => hF q k (by unfold sO; rw [show Nat.ble q 217 = false by (cases hb : Nat.ble q 217 with | false => rfl | true => exact absurd (Nat.le_of_ble_eq_true hb) (by omega)), Bool.and_false]), g1 q (by omega)]
  have o2 := strP_2 (T := T) (e := e) (W := W)
  have ok2 := strP_ok (T := T) (e := e) hW
  rcases er : strP T e W with ⟨z, b1, W1⟩
  rw [er] at hle hk hy o2 ok2
  have DJ : Sd J 235 W := Sd.eq hD fun q g _ => rowJ q (by omega)
  have r13 : J 200 13 = I 200 13 := (hF 200 13 rfl).trans (congrFun (g1 200 (by decide)) 13)
  cases z with
  | false =>
    refine a_top (y := nI b1) (rfl) ?_
    refine a_puti rfl pfX11_30_11 rfl ?_
    refine a_l0 rfl rfl rfl ?_
    refine a_getq rfl gfX11_10_11 rfl (rfl) ?_
    refine a_s rfl rfl ?_
    refine a_puti rfl pfX11_68_7 rfl ?_
    have fK : Fm sJ I (up2 (up2 J 200 3 (nI b1)) 201 1 0) := Fm.up (Fm.up fJ rfl) rfl
    have e3 : up2 (up2 J 200 3 (nI b1)) 201 1 0 200 3 = nI b1 := (congrFun (up2_row (by decide)) 3).trans up2_at
    have DK : Sd (up2 (up2 J 200 3 (nI b1)) 201 1 0) 235 W := Sd.eq DJ fun q g1 g2 => by rw [up2_row (by omega), up2_row (by omega)]
    refine a_l0 rfl rfl rfl ?_
    refine a_getiv (v := nI b1) rfl gfX11_30_11 rfl (e3) ?_
    refine a_s rfl rfl ?_
    have hb1 : b1 ≤ e := hle
    refine a_ic_eq rfl (fun c => absurd c ?_) (fun _ => ?_)
    · intro z
      have := nI_pos (show b1 < 2 ^ 31 by omega)
      rw [z] at this
      exact this (by decide)
    obtain ⟨nd, n1, n2⟩ := hk rfl
    exact a_throw rfl rfl rfl rfl tX11_iae rfl rfl rfl rfl rfl ⟨_, w, rfl, hww, CI.st hci fK ⟨nd, n1, (congrFun ((up2_row (p := 201) (q := 209) (by decide)).trans (up2_row (p := 200) (q := 209) (by decide))) 3).trans n2⟩ ⟨dn W, hW.2.1, (Sd.fd DK (f := 3) (g := 1) (by decide)).trans hW.2.2.2⟩, fK, up2_at, (congrFun (up2_row (p := 201) (q := 200) (by decide)) 13).trans ((up2_ne (Or.inr (by decide))).trans r13), DK, Or.inl ⟨rfl, rfl, e3⟩⟩
  | true =>
    refine a_top (y := (-1)) (rfl) ?_
    have D1 : Sd J 209 W1 := hy rfl
    have W1k : WOk W1 := ok2 rfl
    have o2 : W1 2 = W 2 := o2 rfl
    refine a_puti rfl pfX11_30_11 rfl ?_
    refine a_l0 rfl rfl rfl ?_
    refine a_getq rfl gfX11_10_11 rfl (rfl) ?_
    refine a_s rfl rfl ?_
    refine a_puti rfl pfX11_68_7 rfl ?_
    generalize hK : up2 (up2 J 200 3 (-1)) 201 1 0 = K
    have fK : Fm sJ I K := by
      subst hK
      exact Fm.up (Fm.up fJ rfl) rfl
    have rK : ∀ q, q ≠ 200 → q ≠ 201 → K q = J q := fun q h1 h2 => by
      subst hK
      rw [up2_row h2, up2_row h1]
    have e3 : K 200 3 = -1 := by
      subst hK
      exact (congrFun (up2_row (by decide)) 3).trans up2_at
    have e1 : K 201 1 = 0 := by
      subst hK
      exact up2_at
    have e13 : K 200 13 = J 200 13 := by
      subst hK
      exact (congrFun (up2_row (by decide)) 13).trans (up2_ne (Or.inr (by decide)))
    have DK : Sd K 235 W := Sd.eq DJ fun q g1 g2 => rK q (by omega) (by omega)
    have DK2 : Sd K 209 W1 := Sd.eq D1 fun q g1 g2 => rK q (by omega) (by omega)
    have d3 : K 209 3 = nI (dn W1) := (Sd.fd DK2 (f := 3) (g := 1) (by decide)).trans W1k.2.2.2
    clear hK
    refine a_l0 rfl rfl rfl ?_
    refine a_getiv (v := (-1)) rfl gfX11_30_11 rfl (e3) ?_
    refine a_s rfl rfl ?_
    refine a_ic_eq rfl (fun _ => ?_) (fun c => absurd rfl c)
    refine a_l0 rfl rfl rfl ?_
    refine a_getq rfl gfX11_37_11 rfl (rfl) ?_
    refine a_getiv (v := nI tx) rfl gfX11_89_5 rfl ((Sd.fd DK (f := 16) (g := 2) (by decide)).trans etx) ?_
    refine a_s rfl rfl ?_
    refine a_ic_lt rfl (fun c => ?_) (fun c => ?_)
    rotate_left
    · have t12 : tx = 12 := by
        have := nI_ge_of (a := tx) (b := 12) (Int32.not_lt.mp c) (by omega) (by decide)
        omega
      exact a_throw rfl rfl rfl rfl tX11_uoe rfl rfl rfl rfl rfl ⟨K, w, rfl, hww, CI.st hci fK ⟨dn W1, W1k.2.1, d3⟩ ⟨dn W, hW.2.1, (Sd.fd DK (f := 3) (g := 1) (by decide)).trans hW.2.2.2⟩, fK, e1, e13.trans r13, DK, Or.inr ⟨rfl, rfl, by rw [etx, t12]; rfl, e3⟩⟩
    have t12 : tx < 12 := nI_lt_of (b := 12) (Int32.not_le.mpr c) (by omega) (by decide)
    refine a_l0 rfl rfl rfl ?_
    refine a_getq rfl gfX11_37_11 rfl (rfl) ?_
    refine a_l0 rfl rfl rfl ?_
    refine a_getq rfl gfX11_19_11 rfl (rfl) ?_
    refine a_getq rfl gfX11_75_6 rfl (rfl) ?_
    refine a_eV0 rfl lX11_78 mo_X5_copyFrom (sp_X5_copyFrom (a := 235) (b := 209) (by decide) (by decide) (by decide)) rfl rfl rfl ⟨5, _, rfl, rfl, rfl⟩ rfl ?_
    have D9 : Sd (cpS K 235 209 9) 235 W1 := Sd.cp DK2 (Nat.le_refl _)
    have r9 : ∀ q, ¬ (235 ≤ q ∧ q < 235 + 9) → cpS K 235 209 9 q = K q := fun q hq => cpS_out hq
    generalize hM : cpS K 235 209 9 = M at D9 r9
    refine a_l0 rfl rfl rfl ?_
    refine a_getq rfl gfX11_37_11 rfl (rfl) ?_
    refine a_s rfl rfl ?_
    refine a_getiv (v := W 2) rfl gfX11_89_5 rfl ((Sd.fd D9 (f := 16) (g := 2) (by decide)).trans o2) ?_
    refine a_s rfl rfl ?_
    refine a_s rfl rfl ?_
    refine a_puti rfl pfX11_89_5 rfl ?_
    refine a_l0 rfl rfl rfl ?_
    refine a_s rfl rfl ?_
    refine a_puti rfl pfX11_95_11 rfl ?_
    refine a_l0 rfl rfl rfl ?_
    refine a_getq rfl gfX11_37_11 rfl (rfl) ?_
    refine a_getiv (v := W 2 + 1) rfl gfX11_89_5 rfl ((congrFun (up2_row (by decide)) 16).trans up2_at) ?_
    have fM : Fm sJ I (up2 (up2 M 235 16 (W 2 + 1)) 200 13 0) := Fm.up (Fm.up (fun q k hq => by
      by_cases c9 : 235 ≤ q ∧ q < 235 + 9
      · exfalso
        have e5 : Nat.ble 235 q = true := Nat.ble_eq_true_of_le c9.1
        have e6 : Nat.ble q 243 = true := Nat.ble_eq_true_of_le (by omega)
        simp [sJ, e5, e6] at hq
      · rw [r9 q c9]
        exact fK q k hq) rfl) rfl
    have D8 : Sd (up2 (up2 M 235 16 (W 2 + 1)) 200 13 0) 235 (ud W1 2 (W 2 + 1)) := Sd.eq (Sd.pu (f := 16) (g := 2) D9 (by decide)) fun q g1 g2 => up2_row (by omega)
    refine a_iret rfl rfl ⟨rfl, rfl, fun z => ?_, _, w, rfl, hww, CI.st hci fM ?_ ?_, fM, ?_, ?_, up2_at, D8⟩
    · rw [etx] at z
      have := nI_inj (b := 12) (by omega) (by decide) z
      omega
    · refine ⟨dn W1, W1k.2.1, ?_⟩
      rw [up2_row (by decide), up2_row (by decide), r9 209 (by decide)]
      exact d3
    · refine ⟨dn W1, W1k.2.1, ?_⟩
      rw [up2_row (by decide), up2_ne (Or.inr (by decide))]
      exact (Sd.fd D9 (f := 3) (g := 1) (by decide)).trans W1k.2.2.2
    · rw [up2_row (by decide), up2_row (by decide), r9 201 (by decide)]
      exact e1
    · rw [up2_ne (Or.inr (by decide)), up2_row (by decide), r9 200 (by decide)]
      exact e3
end T79q
end
section
/-! ===== street, whole, of the reference ===== -/
section T79r
variable {S : aS} {I : Nat → Nat → Int32} {L : Nat → Nat → Int64} {w1 w2 t : Nat} {e b nd np : Nat} {T W : Nat → Int32}
set_option maxRecDepth 100000
theorem usH_0 : usH I 420 0 = 0 := by
  unfold usH
  rw [up2_ne (Or.inr (by decide)), up2_ne (Or.inr (by decide)), up2_ne (Or.inr (by decide)), up2_at]
theorem h_readAllS (hw : WdS S) (hbt : BtT T) (hT : I 426 = T) (h9 : I 420 9 = nI e) (h4 : e ≤ 400) (h421 : I 421 = W) (hW : WOk W) : Sp S m_X12_readAll 61 0 0 [.ref 420, .int (bI true)] (hp I L w1 w2 t) (fun v h' => ∃ x, v = some (.int x) ∧ ((strP T e W).1 = false → x = -1) ∧ ((strP T e W).1 = true → 0 ≤ x) ∧ ∃ J, h' = hp J L w1 w2 t ∧ Fm sS (up2 (usH I) 420 16 0) J ∧ ((strP T e W).1 = false → J 420 12 = nI (strP T e W).2.1) ∧ ((strP T e W).1 = true → J 421 = (strP T e W).2.2)) nX := by
  refine Sp_of ok_X12_readAll rfl rfl ?_
  show AW S m_X12_readAll 61 _ _ 0 0 0 [some (.ref 420), some (.int (bI true)), none] [] (hp I L w1 w2 t)
  have T0 : up2 (usH I) 420 16 0 426 = T := ((up2_row (by decide)).trans (usH_row (by decide))).trans hT
  have P0 : Pp e 0 (up2 (usH I) 420 16 0) := ⟨(up2_ne (Or.inr (by decide))).trans up2_at, ((up2_ne (Or.inr (by decide))).trans usH_11).trans h9, Nat.zero_le _, h4⟩
  have W0 : up2 (usH I) 420 16 0 421 = W := ((up2_row (by decide)).trans (usH_row (by decide))).trans h421
  refine a_l0 rfl rfl rfl ?_
  refine a_eV0 rfl lX12_232 mo_X12_uses r_X12_uses rfl rfl rfl ⟨12, _, rfl, rfl, rfl⟩ rfl ?_
  refine a_l0 rfl rfl rfl ?_
  refine a_s rfl rfl ?_
  refine a_puti rfl pfX12_168_12 rfl ?_
  refine a_l0 rfl rfl rfl ?_
  refine a_gV rfl lX12_94 mo_X12_blanks (h_blanks (I := up2 (usH I) 420 16 0) P0) rfl rfl rfl ⟨12, _, rfl, rfl, rfl⟩ rfl (fun v' h' hv => ?_)
  obtain ⟨rfl, J1, rfl, h1⟩ := hv
  rw [T0] at h1
  have h1 : Rd e 0 (bg T e 0) (bg T e 0) (up2 (usH I) 420 16 0) J1 := h1
  have C1 : Hf T e (bg T e 0) W (up2 (usH I) 420 16 0) J1 (bg T e 0) := ⟨Fm.mo (Rd.fm h1) sR_sS, Rd.pp h1, bg_sk 0, (Rd.w h1).trans W0⟩
  have hb0 := bg_le (T := T) (e := e) 0
  refine a_l0 rfl rfl rfl ?_
  refine a_geti rfl gfX12_81_12 rfl ?_
  refine a_top (y := nI (bg T e 0)) (Pp.pu (Rd.pp h1)) ?_
  refine a_l0 rfl rfl rfl ?_
  refine a_geti rfl gfX12_84_12 rfl ?_
  refine a_top (y := nI e) (Pp.en (Rd.pp h1)) ?_
  refine a_ic_ne rfl (fun c0 => ?_) (fun c0 => ?_)
  rotate_left
  · have c0 := nI_inj (by omega) (by omega) c0
    have el : strP T e W = (true, bg T e 0, W) := if_neg (by omega)
    rw [el]
    refine a_s rfl rfl ?_
    exact a_iret rfl rfl ⟨0, rfl, fun z => (by cases z), fun _ => Int32.le_refl _, J1, rfl, C1.1, fun z => (by cases z), fun _ => Hf.wd C1⟩
  have c0 : bg T e 0 < e := by
    rcases Nat.lt_or_ge (bg T e 0) e with g | g
    · exact g
    · exact absurd (congrArg nI (show bg T e 0 = e by omega)) c0
  refine a_s rfl rfl ?_
  refine a_s2 rfl rfl rfl rfl rfl rfl ?_
  refine a_inv (n := 14) (fun m ls h => ∃ i b' W' p' J, ls = [some (.ref 420), some (.int (bI true)), some (.int (nI i))] ∧ h = hp J L w1 w2 t ∧ Hf T e b' W' (up2 (usH I) 420 16 0) J p' ∧ WOk W' ∧ strsP T e (14 - i) b' W' = strP T e W ∧ i ≤ 14 ∧ m = 14 - i) ⟨0, bg T e 0, W, bg T e 0, J1, rfl, rfl, C1, hW, (if_pos c0).symm, by decide, rfl⟩ ?_
  rintro m _ _ ⟨i, b', W', p', J, rfl, rfl, C, hW', es, hi, hm⟩ ih
  have eT : J 426 = T := Hf.tt C T0
  refine a_l0 rfl rfl rfl ?_
  refine a_l1 rfl rfl rfl ?_
  refine a_l2 rfl rfl rfl ?_
  refine a_gV rfl lX12_235 mo_X12_readLine (h_readLineS hw eT (Hf.pp C) (Hf.nb C) (Hf.wd C) hW' hi) rfl rfl rfl ⟨12, _, rfl, rfl, rfl⟩ rfl (fun v' h' hv => ?_)
  replace hv := QH.be C.1 hv
  by_cases c14 : i < 14
  rotate_left
  · rw [if_neg c14] at hv
    obtain ⟨rfl, J2, p2, rfl, y, n⟩ := hv
    rw [show 14 - i = 0 by omega] at es
    have es : strP T e W = (false, b', W') := es.symm
    refine a_if_ne rfl (fun z => absurd rfl z) (fun _ => ?_)
    refine a_s rfl rfl ?_
    rw [es]
    exact a_iret rfl rfl ⟨-1, rfl, fun _ => rfl, fun z => (by cases z), J2, rfl, (n rfl).1, fun _ => (n rfl).2, fun z => by cases z⟩
  rw [if_pos c14] at hv
  obtain ⟨rfl, J2, p2, rfl, y, n⟩ := hv
  obtain ⟨f, hf⟩ : ∃ f, 14 - i = f + 1 := ⟨14 - i - 1, by omega⟩
  rw [hf, strsP_s] at es
  have lok := linP_ok (T := T) (e := e) (b := b') hW'
  generalize linP T e b' W' = r at es y n lok ⊢
  obtain ⟨z, b1, W1⟩ := r
  cases z with
  | false =>
    refine a_if_ne rfl (fun z => absurd rfl z) (fun _ => ?_)
    have es : strP T e W = (false, b1, W') := es.symm
    refine a_s rfl rfl ?_
    rw [es]
    exact a_iret rfl rfl ⟨-1, rfl, fun _ => rfl, fun z => (by cases z), J2, rfl, (n rfl).1, fun _ => (n rfl).2, fun z => by cases z⟩
  | true =>
  refine a_if_ne rfl (fun _ => ?_) (fun z => absurd (show (1 : Int32) = 0 from z) (by decide))
  rw [if_pos rfl] at es
  have C2 : Hf T e b1 W1 (up2 (usH I) 420 16 0) J2 p2 := y rfl
  have W1k : WOk W1 := lok rfl
  have g2 := Hf.le C2
  have eT2 : J2 426 = T := Hf.tt C2 T0
  refine a_l0 rfl rfl rfl ?_
  refine a_gV rfl lX12_94 mo_X12_blanks (h_blanks (Hf.pp C2)) rfl rfl rfl ⟨12, _, rfl, rfl, rfl⟩ rfl (fun v' h' hv => ?_)
  obtain ⟨rfl, J3, rfl, h3⟩ := hv
  rw [eT2, Hf.nb C2] at h3
  have C3 : Hf T e b1 W1 (up2 (usH I) 420 16 0) J3 b1 := Hf.rd C2 h3 (Hf.sk C2)
  have eT3 : J3 426 = T := Hf.tt C3 T0
  have h4' := Pp.e4 (Hf.pp C3)
  refine a_l0 rfl rfl rfl ?_
  refine a_geti rfl gfX12_81_12 rfl ?_
  refine a_top (y := nI b1) (Pp.pu (Rd.pp h3)) ?_
  refine a_l0 rfl rfl rfl ?_
  refine a_geti rfl gfX12_84_12 rfl ?_
  refine a_top (y := nI e) (Pp.en (Rd.pp h3)) ?_
  refine a_ic_ne rfl (fun c1 => ?_) (fun c1 => ?_)
  rotate_left
  · have c1 := nI_inj (by omega) (by omega) c1
    have es : strP T e W = (true, b1, W1) := es.symm.trans (if_neg (show ¬ b1 < e by omega))
    refine a_l2 rfl rfl rfl ?_
    refine a_s rfl rfl ?_
    refine a_s rfl rfl ?_
    refine a_top (y := nI (i + 1)) ((nI_succ _).symm) ?_
    rw [es]
    exact a_iret rfl rfl ⟨nI (i + 1), rfl, fun z => (by cases z), fun _ => nI_0le (by omega), J3, rfl, C3.1, fun z => (by cases z), fun _ => Hf.wd C3⟩
  have c1 : b1 < e := by
    rcases Nat.lt_or_ge b1 e with g | g
    · exact g
    · exact absurd (congrArg nI (show b1 = e by omega)) c1
  have es := (if_pos c1).symm.trans es
  refine a_l0 rfl rfl rfl ?_
  refine a_s rfl rfl ?_
  refine a_s rfl rfl ?_
  refine a_eV1 rfl lX12_87 mo_X12_isAt (h_isAt (Rd.pp h3)) rfl rfl rfl ⟨12, _, rfl, rfl, rfl⟩ rfl ?_
  refine a_top (y := bI (sg T e b1 59)) (by rw [eT3]; exact congrArg bI (at_s (c := 59) hbt h4 (by decide))) ?_
  cases c59 : sg T e b1 59 with
  | true =>
    refine a_if_ne rfl (fun _ => ?_) (fun z => absurd (show (1 : Int32) = 0 from z) (by decide))
    have es := (if_pos c59).symm.trans es
    refine a_l0 rfl rfl rfl ?_
    refine a_s rfl rfl ?_
    refine a_geti rfl gfX12_81_12 rfl ?_
    refine a_top (y := nI b1) (Pp.pu (Rd.pp h3)) ?_
    refine a_s rfl rfl ?_
    refine a_s rfl rfl ?_
    refine a_top (y := nI (b1 + 1)) ((nI_succ _).symm) ?_
    refine a_puti rfl pfX12_81_12 rfl ?_
    refine a_iv2 (y := nI (i + 1)) rfl rfl rfl ((nI_succ _).symm) ?_
    refine a_goto rfl ?_
    have e3 := en_3 (of_decide_eq_true c59).1
    exact ih (14 - (i + 1)) _ _ (by omega) ⟨i + 1, nx T e b1, W1, b1 + 1, _, rfl, rfl, ⟨Fm.up C3.1 rfl, Pp.to (Rd.pp h3) (by omega), by rw [← e3]; rfl, (up2_row (by decide)).trans (Hf.wd C3)⟩, W1k, by rw [show 14 - (i + 1) = f by omega]; exact es, by omega, rfl⟩
  | false =>
    refine a_if_ne rfl (fun z => absurd rfl z) (fun _ => ?_)
    have es : strP T e W = (false, b1, W') := es.symm.trans (if_neg (by show ¬ sg T e b1 59 = true; rw [c59]; exact Bool.false_ne_true))
    refine a_s rfl rfl ?_
    rw [es]
    exact a_iret rfl rfl ⟨-1, rfl, fun _ => rfl, fun z => (by cases z), J3, rfl, C3.1, fun _ => Rd.be h3, fun z => by cases z⟩
/-- street of the reference: as it was, or the new one -/
def StN (r : SR) (I J : Nat → Nat → Int32) (v : Option Value) : Prop :=
  (r.1 = false ∧ v = some (.int 0) ∧ J 420 0 = 1 ∧ J 420 14 = nI r.2.1 ∧ J 421 = I 421 ∧ J 420 7 = I 420 7) ∨
  (r.1 = true ∧ I 421 2 = 12 ∧ v = some (.int 0) ∧ J 420 0 = 2 ∧ J 420 14 = -1 ∧ J 421 = I 421 ∧ J 420 7 = I 420 7) ∨
  (r.1 = true ∧ ¬ I 421 2 = 12 ∧ v = some (.int (I 421 2 + 1)) ∧ J 420 0 = 0 ∧ J 420 14 = -1 ∧ J 421 = ud r.2.2 2 (I 421 2 + 1) ∧ J 420 7 = 0)
theorem h_streetR (hw : WdS S) (hr : RI nd np I) (hbt : BtT T) (hT : I 426 = T) (h9 : I 420 9 = nI e) (h4 : e ≤ 400) (hG : Rg (I 421)) : Sp S m_X12_street 62 0 0 [.ref 420] (hp I L w1 w2 t) (fun v h' => ∃ J nd' np', h' = hp J L w1 w2 t ∧ Us nd' np' I J ∧ J 422 = I 422 ∧ J 425 = I 425 ∧ StN (strP T e (I 421)) I J v) nX := by
  refine Sp_of ok_X12_street rfl rfl ?_
  show AW S m_X12_street 62 _ _ 0 0 0 [some (.ref 420), none, none] [] (hp I L w1 w2 t)
  have restore : ∀ {x : Int32} {J : Nat → Nat → Int32}, GX I J → (∀ K, K 421 = I 421 → (∀ k, K 420 k = J 420 k) → StN (strP T e (I 421)) I K (some (.int 0))) → AW S m_X12_street 62 (fun v h' => ∃ J nd' np', h' = hp J L w1 w2 t ∧ Us nd' np' I J ∧ J 422 = I 422 ∧ J 425 = I 425 ∧ StN (strP T e (I 421)) I J v) nX 0 0 90 [some (.ref 420), some (.int x), none] [] (hp J L w1 w2 t) := by
    intro x J hg hst
    refine a_s rfl rfl ?_
    refine a_s2 rfl rfl rfl rfl rfl rfl ?_
    refine a_forE (n := 1184) (fun j => [some (.ref 420), some (.int x), some (.int (nI j))]) (fun j => hp (cpR J 421 0 423 0 j) L w1 w2 t) (by simp [lsub, nI_0]) (by rw [cpR_0]) ?_ (fun j hj ih => ?_)
    · refine a_l2 rfl rfl rfl ?_
      refine a_s rfl rfl ?_
      refine a_ic_ge rfl (fun _ => ?_) (fun c => absurd (Int32.le_refl _) c)
      refine a_s rfl rfl ?_
      have e0 : ∀ q, q ≠ 421 → cpR J 421 0 423 0 1184 q = J q := fun q hq => cpR_row hq
      refine a_iret rfl rfl ⟨_, nd, np, rfl, Us.rest hr hg, (e0 422 (by decide)).trans (funext fun k => hg.1 422 k rfl), (e0 425 (by decide)).trans (funext fun k => hg.1 425 k rfl), hst _ (funext fun k => ?_) (fun k => congrFun (e0 420 (by decide)) k)⟩
      by_cases c : k < 1184
      · rw [show k = 0 + k by omega, cpR_in c]
        rw [show k + 0 = k by omega, hg.2.2 k c]
        congr 1
        omega
      · rw [cpR_out (by omega)]
        exact hg.1 421 k (sX_hi (by omega))
    · refine a_l2 rfl rfl rfl ?_
      refine a_s rfl rfl ?_
      refine a_ic_ge rfl (fun c => absurd c (nI_ge (b := 1184) hj (by omega))) (fun _ => ?_)
      refine a_l0 rfl rfl rfl ?_
      refine a_getq rfl gfX12_13_12 rfl (rfl) ?_
      refine a_l2 rfl rfl rfl ?_
      refine a_l0 rfl rfl rfl ?_
      refine a_getq rfl gfX12_20_12 rfl (rfl) ?_
      refine a_l2 rfl rfl rfl ?_
      refine a_ialdv (v := J 423 (j + 0)) rfl (n := 1184) rfl (inI_nI (by omega) (by omega)) (by rw [nI_clamp (by omega), cpR_row (by decide)]; rfl) ?_
      refine a_iastv (k := 0 + j) rfl (n := 2033) rfl (inI_nI (by omega) (by omega)) (by rw [nI_clamp (by omega)]; omega) ?_
      rw [cpR_succ]
      refine a_i2 rfl rfl rfl ?_
      refine a_goto rfl ?_
      exact a_back ih (by simp [lsub, nI_1]) rfl
  have k27 : AW S m_X12_street 62 (fun v h' => ∃ J nd' np', h' = hp J L w1 w2 t ∧ Us nd' np' I J ∧ J 422 = I 422 ∧ J 425 = I 425 ∧ StN (strP T e (I 421)) I J v) nX 0 0 27 [some (.ref 420), some (.int (nI 1184)), none] [] (hp (cpR I 423 0 421 0 1184) L w1 w2 t) := by
    have e0 : ∀ q, q ≠ 423 → cpR I 423 0 421 0 1184 q = I q := fun q hq => cpR_row hq
    refine a_l0 rfl rfl rfl ?_
    refine a_s rfl rfl ?_
    refine a_gV rfl lX12_239 mo_X12_readAll (h_readAllS (T := T) (e := e) (W := I 421) hw hbt ((e0 426 (by decide)).trans hT) ((congrFun (e0 420 (by decide)) 9).trans h9) h4 (e0 421 (by decide)) hG.1) rfl rfl rfl ⟨12, _, rfl, rfl, rfl⟩ rfl (fun v' h' hv => ?_)
    obtain ⟨x, rfl, xf, xt, J, rfl, hF, n, y⟩ := hv
    have hg : GX I J := GX.sS (GX.beg h9) hF
    have o2 := strP_2 (T := T) (e := e) (W := I 421)
    have org := strP_rg (T := T) (e := e) hG
    have j0 : J 420 0 = 0 := (hF 420 0 rfl).trans ((up2_ne (Or.inr (by decide))).trans (usH_0))
    have j7 : J 420 7 = I 420 7 := (hF 420 7 rfl).trans ((up2_ne (Or.inr (by decide))).trans ((usH_f (by decide) (by decide) (by decide) (by decide)).trans (congrFun (e0 420 (by decide)) 7)))
    refine a_s1 rfl rfl rfl rfl rfl rfl ?_
    refine a_l0 rfl rfl rfl ?_
    refine a_l1 rfl rfl rfl ?_
    rcases er : strP T e (I 421) with ⟨z, b1, W1⟩
    rw [er] at xf xt n y o2 org restore
    cases z with
    | false =>
      have xf : x = -1 := xf rfl
      subst xf
      refine a_if_ge rfl (fun z => absurd z (by decide)) (fun _ => ?_)
      refine a_l0 rfl rfl rfl ?_
      refine a_getiv (v := nI b1) rfl gfX12_91_12 rfl (n rfl) ?_
      refine a_goto rfl ?_
      refine a_puti rfl pfX12_33_12 rfl ?_
      refine a_l0 rfl rfl rfl ?_
      refine a_l1 rfl rfl rfl ?_
      refine a_if_ge rfl (fun z => absurd z (by decide)) (fun _ => ?_)
      refine a_s rfl rfl ?_
      refine a_goto rfl ?_
      refine a_s rfl rfl ?_
      refine a_eV1 rfl lX12_243 mo_X12_throwsIf (h_throwsIf (z := true)) rfl rfl rfl ⟨12, _, rfl, rfl, rfl⟩ rfl ?_
      rw [if_pos rfl]
      refine a_if_ne rfl (fun _ => ?_) (fun z => absurd z (by decide))
      refine restore (GX.up (GX.up hg rfl (by decide)) rfl (by decide)) (fun K k1 k2 => Or.inl ⟨rfl, rfl, (k2 0).trans up2_at, ?_, k1, ?_⟩)
      · rw [k2 14, up2_ne (Or.inr (by decide))]
        exact up2_at
      · rw [k2 7, up2_ne (Or.inr (by decide)), up2_ne (Or.inr (by decide))]
        exact j7
    | true =>
      have xt : 0 ≤ x := xt rfl
      have y : J 421 = W1 := y rfl
      have o2 : W1 2 = I 421 2 := o2 rfl
      have org : Rg W1 := org rfl
      refine a_if_ge rfl (fun _ => ?_) (fun z => absurd xt z)
      refine a_s rfl rfl ?_
      refine a_puti rfl pfX12_33_12 rfl ?_
      refine a_l0 rfl rfl rfl ?_
      refine a_l1 rfl rfl rfl ?_
      refine a_if_ge rfl (fun _ => ?_) (fun z => absurd xt z)
      refine a_s rfl rfl ?_
      refine a_s rfl rfl ?_
      refine a_eV1 rfl lX12_243 mo_X12_throwsIf (h_throwsIf (z := false)) rfl rfl rfl ⟨12, _, rfl, rfl, rfl⟩ rfl ?_
      rw [if_neg Bool.false_ne_true]
      refine a_if_ne rfl (fun z => absurd rfl z) (fun _ => ?_)
      have hg1 : GX I (up2 J 420 14 (-1)) := GX.up hg rfl (by decide)
      have t2 : up2 J 420 14 (-1) 421 2 = I 421 2 := (congrFun (up2_row (by decide)) 2).trans ((congrFun y 2).trans o2)
      refine a_l0 rfl rfl rfl ?_
      refine a_l0 rfl rfl rfl ?_
      refine a_getq rfl gfX12_13_12 rfl (rfl) ?_
      refine a_s rfl rfl ?_
      refine a_ialdv (v := I 421 2) rfl (n := 2033) rfl ⟨by decide, by decide⟩ t2 ?_
      refine a_s rfl rfl ?_
      refine a_ic_ne rfl (fun c12 => ?_) (fun c12 => ?_)
      rotate_left
      · refine a_s rfl rfl ?_
        refine a_goto rfl ?_
        refine a_s rfl rfl ?_
        refine a_eV1 rfl lX12_243 mo_X12_throwsIf (h_throwsIf (z := true)) rfl rfl rfl ⟨12, _, rfl, rfl, rfl⟩ rfl ?_
        rw [if_pos rfl]
        refine a_if_eq rfl (fun z => absurd z (by decide)) (fun _ => ?_)
        refine restore (GX.up hg1 rfl (by decide)) (fun K k1 k2 => Or.inr (Or.inl ⟨rfl, c12, rfl, (k2 0).trans up2_at, ?_, k1, ?_⟩))
        · rw [k2 14, up2_ne (Or.inr (by decide))]
          exact up2_at
        · rw [k2 7, up2_ne (Or.inr (by decide)), up2_ne (Or.inr (by decide))]
          exact j7
      refine a_s rfl rfl ?_
      refine a_s rfl rfl ?_
      refine a_eV1 rfl lX12_243 mo_X12_throwsIf (h_throwsIf (z := false)) rfl rfl rfl ⟨12, _, rfl, rfl, rfl⟩ rfl ?_
      rw [if_neg Bool.false_ne_true]
      refine a_if_eq rfl (fun _ => ?_) (fun z => absurd rfl z)
      have sf : SF (dn W1) (pn W1) (up2 J 420 14 (-1)) := by
        unfold SF
        rw [up2_row (by decide), y]
        exact ⟨org.so, org.fr⟩
      generalize hM : up2 J 420 14 (-1) = M at hg1 t2 sf
      have m421 : M 421 = W1 := by
        subst hM
        rw [up2_row (by decide)]
        exact y
      have m0 : M 420 0 = 0 := by
        subst hM
        exact (up2_ne (Or.inr (by decide))).trans j0
      have m14 : M 420 14 = -1 := by
        subst hM
        exact up2_at
      refine a_l0 rfl rfl rfl ?_
      refine a_getq rfl gfX12_13_12 rfl (rfl) ?_
      refine a_s rfl rfl ?_
      refine a_s rfl rfl ?_
      refine a_ialdv (v := I 421 2) rfl (n := 2033) rfl ⟨by decide, by decide⟩ t2 ?_
      refine a_s rfl rfl ?_
      refine a_s rfl rfl ?_
      refine a_iastv (k := 2) rfl (n := 2033) rfl ⟨by decide, by decide⟩ rfl ?_
      refine a_l0 rfl rfl rfl ?_
      refine a_s rfl rfl ?_
      refine a_puti rfl pfX12_53_12 rfl ?_
      refine a_l0 rfl rfl rfl ?_
      refine a_getq rfl gfX12_13_12 rfl (rfl) ?_
      refine a_s rfl rfl ?_
      refine a_ialdv (v := I 421 2 + 1) rfl (n := 2033) rfl ⟨by decide, by decide⟩ ((congrFun (up2_row (by decide)) 2).trans up2_at) ?_
      have e9 : ∀ q, q ≠ 421 → q ≠ 420 → up2 (up2 M 421 2 (I 421 2 + 1)) 420 7 0 q = M q := fun q h1 h2 => by rw [up2_row h2, up2_row h1]
      refine a_iret rfl rfl ⟨_, _, _, rfl, Us.done hr hg1 sf, (e9 422 (by decide) (by decide)).trans (funext fun k => hg1.1 422 k rfl), (e9 425 (by decide) (by decide)).trans (funext fun k => hg1.1 425 k rfl), Or.inr (Or.inr ⟨rfl, c12, rfl, ?_, ?_, ?_, up2_at⟩)⟩
      · rw [up2_ne (Or.inr (by decide)), up2_row (by decide)]
        exact m0
      · rw [up2_ne (Or.inr (by decide)), up2_row (by decide)]
        exact m14
      · rw [up2_row (by decide), up2_ud, m421]
  refine a_s rfl rfl ?_
  refine a_s1 rfl rfl rfl rfl rfl rfl ?_
  refine a_forE (n := 1184) (fun j => [some (.ref 420), some (.int (nI j)), none]) (fun j => hp (cpR I 423 0 421 0 j) L w1 w2 t) (by simp [lsub, nI_0]) (by rw [cpR_0]) ?_ (fun j hj ih => ?_)
  · refine a_l1 rfl rfl rfl ?_
    refine a_s rfl rfl ?_
    refine a_ic_ge rfl (fun _ => k27) (fun c => absurd (Int32.le_refl _) c)
  · refine a_l1 rfl rfl rfl ?_
    refine a_s rfl rfl ?_
    refine a_ic_ge rfl (fun c => absurd c (nI_ge (b := 1184) hj (by omega))) (fun _ => ?_)
    refine a_l0 rfl rfl rfl ?_
    refine a_getq rfl gfX12_20_12 rfl (rfl) ?_
    refine a_l1 rfl rfl rfl ?_
    refine a_l0 rfl rfl rfl ?_
    refine a_getq rfl gfX12_13_12 rfl (rfl) ?_
    refine a_l1 rfl rfl rfl ?_
    refine a_ialdv (v := I 421 (j + 0)) rfl (n := 2033) rfl (inI_nI (by omega) (by omega)) (by rw [nI_clamp (by omega), cpR_row (by decide)]; rfl) ?_
    refine a_iastv (k := 0 + j) rfl (n := 1184) rfl (inI_nI (by omega) (by omega)) (by rw [nI_clamp (by omega)]; omega) ?_
    rw [cpR_succ]
    refine a_i1 rfl rfl rfl ?_
    refine a_goto rfl ?_
    exact a_back ih (by simp [lsub, nI_1]) rfl
end T79r
end
section
/-! ===== the reference's acts, exactly (printed by program) ===== -/
section T79s
variable {S : aS} {I : Nat → Nat → Int32} {L : Nat → Nat → Int64} {w1 w2 t : Nat} {nd np r : Nat}
set_option maxRecDepth 100000
def ixN (x : Int32) : Nat := x.toNatClampNeg
theorem ixN_nI {i : Nat} (h : i < 2 ^ 31) : ixN (nI i) = i := nI_clamp h
theorem inB_ix {n : Nat} {x : Int32} (hn : n < 2 ^ 31) (h : inB x 0 (nI n - 1) = true) : ∃ j, j < n ∧ x = nI j := isIx hn (by rw [h]; rfl)
theorem h_remembers (er : I 420 7 = nI r) (hr12 : r ≤ 12) : SpE S m_X12_remembers 12 [.ref 420] (hp I L w1 w2 t) none (hp (remH I r) L w1 w2 t) := by
  refine SpE_of ok_X12_remembers rfl rfl ?_
  show AW S m_X12_remembers 12 _ _ 0 0 0 [some (.ref 420), none] [] (hp I L w1 w2 t)
  refine a_l0 rfl rfl rfl ?_
  refine a_geti rfl gfX12_53_12 rfl ?_
  refine a_top (y := nI r) (er) ?_
  refine a_s rfl rfl ?_
  refine a_ic_ne rfl (fun c => ?_) (fun c => ?_)
  · have h12 : ¬ r = 12 := fun z => c (by rw [z]; rfl)
    unfold remH
    rw [if_neg h12]
    refine a_l0 rfl rfl rfl ?_
    refine a_s rfl rfl ?_
    refine a_geti rfl gfX12_53_12 rfl ?_
    refine a_top (y := nI r) (er) ?_
    refine a_s rfl rfl ?_
    refine a_s rfl rfl ?_
    refine a_top (y := nI (r + 1)) ((nI_succ _).symm) ?_
    refine a_puti rfl pfX12_53_12 rfl ?_
    exact rem2 (by omega) up2_at ⟨rfl, rfl⟩
  · have h12 : r = 12 := nI_inj (by omega) (by decide) c
    subst h12
    unfold remH
    rw [if_pos rfl]
    refine a_s rfl rfl ?_
    refine a_s1 rfl rfl rfl rfl rfl rfl ?_
    refine a_forE (n := 3685) (fun j => [some (.ref 420), some (.int (nI j))]) (fun j => hp (cpR I 425 0 425 335 j) L w1 w2 t) (by simp [lsub, nI_0]) (by rw [cpR_0]) ?_ (fun j hj ih => ?_)
    · refine a_l1 rfl rfl rfl ?_
      refine a_s rfl rfl ?_
      refine a_ic_ge rfl (fun _ => ?_) (fun c => absurd (Int32.le_refl _) c)
      refine a_goto rfl ?_
      exact rem2 (m := 11) (by decide) ((congrFun (cpR_row (by decide)) 7).trans er) ⟨rfl, rfl⟩
    · refine a_l1 rfl rfl rfl ?_
      refine a_s rfl rfl ?_
      refine a_ic_ge rfl (fun c => absurd c (nI_ge (b := 3685) hj (by omega))) (fun _ => ?_)
      refine a_l0 rfl rfl rfl ?_
      refine a_getq rfl gfX12_26_12 rfl (rfl) ?_
      refine a_l1 rfl rfl rfl ?_
      refine a_l0 rfl rfl rfl ?_
      refine a_getq rfl gfX12_26_12 rfl (rfl) ?_
      refine a_l1 rfl rfl rfl ?_
      refine a_s rfl rfl ?_
      refine a_s rfl rfl ?_
      refine a_top (y := nI (j + 335)) (nI_addl j 335) ?_
      refine a_ialdv (v := I 425 (j + 335)) rfl (n := 4020) rfl (inI_nI (by omega) (by omega)) (by rw [nI_clamp (by omega)]; exact cpR_out (by omega)) ?_
      refine a_iastv (k := 0 + j) rfl (n := 4020) rfl (inI_nI (by omega) (by omega)) (by rw [nI_clamp (by omega)]; omega) ?_
      rw [cpR_succ]
      refine a_i1 rfl rfl rfl ?_
      refine a_goto rfl ?_
      exact a_back ih (by simp [lsub, nI_1]) rfl
theorem remH_421 : remH I r 421 = I 421 := by
  unfold remH
  by_cases c : r = 12
  · rw [if_pos c, cpR_row (by decide), cpR_row (by decide)]
  · rw [if_neg c, cpR_row (by decide), up2_row (by decide)]
/-- an act: refused, or done behind its being remembered -/
def QA (I : Nat → Nat → Int32) (r : Nat) (c v : Int32) (f : (Nat → Nat → Int32) → Nat → Nat → Int32) (L : Nat → Nat → Int64) (w1 w2 t : Nat) : Option Value → aH → Prop := fun v' h' => (c = 0 ∧ v' = some (.int v) ∧ h' = hp (f (remH (up2 I 420 0 0) r)) L w1 w2 t) ∨ (¬ c = 0 ∧ v' = some (.int 0) ∧ h' = hp (up2 (up2 I 420 0 0) 420 0 c) L w1 w2 t)
theorem QA.no {c v k : Int32} {f : (Nat → Nat → Int32) → Nat → Nat → Int32} (hc : c = k) (hk : ¬ k = 0) : QA I r c v f L w1 w2 t (some (.int 0)) (hp (up2 (up2 I 420 0 0) 420 0 k) L w1 w2 t) := by
  subst hc
  exact Or.inr ⟨hk, rfl, rfl⟩
theorem QA.yes {c v x : Int32} {f : (Nat → Nat → Int32) → Nat → Nat → Int32} {J : Nat → Nat → Int32} (hc : c = 0) (hx : x = v) (hJ : J = f (remH (up2 I 420 0 0) r)) : QA I r c v f L w1 w2 t (some (.int x)) (hp J L w1 w2 t) := Or.inl ⟨hc, by rw [hx], by rw [hJ]⟩
def vS (nd : Nat) (W : Nat → Int32) (k x : Int32) : Int32 := if inB x 0 (nI nd - 1) = true then (if W (23 + 6 * ixN x + 5) = k then 0 else 2) else 1
def vC (nd : Nat) (W : Nat → Int32) (x : Int32) : Int32 := if inB x 0 (nI nd - 1) = true then (if canR nd W (ixN x) = true then 0 else 2) else 1
def vH (nd np : Nat) (W : Nat → Int32) (x y : Int32) : Int32 := if inB x 0 (nI nd - 1) = true ∧ inB y 0 (nI np - 1) = true then (if W (23 + 6 * ixN x + 0) = y then 2 else if W (23 + 6 * ixN x + 5) = 1 then 3 else 0) else 1
def vL (nd : Nat) (x y : Int32) : Int32 := if inB x 0 (nI nd - 1) = true ∧ (y = -1 ∨ inB y 0 (nI nd - 1) = true) then (if x = y then 2 else 0) else 1
def vF (np : Nat) (x y : Int32) : Int32 := if inB x 0 (nI np - 1) = true then (if inB y 0 9 = true then 0 else 2) else 1
theorem h_isNow {i : Nat} (hi : i < 12) {x : Int32} : SpE S m_X12_isNow 13 [.ref 420, .int (nI i), .int x] (hp I L w1 w2 t) none (hp (up2 I 421 (23 + 6 * i + 5) x) L w1 w2 t) := by
  refine SpE_of ok_X12_isNow rfl rfl ?_
  show AW S m_X12_isNow 13 _ _ 0 0 0 [some (.ref 420), some (.int (nI i)), some (.int x)] [] (hp I L w1 w2 t)
  refine a_l0 rfl rfl rfl ?_
  refine a_getq rfl gfX12_13_12 rfl (rfl) ?_
  refine a_l1 rfl rfl rfl ?_
  refine a_s rfl rfl ?_
  refine a_eS1 rfl lX12_60 mo_X12_at (sp_X12_at (d := i) (k := 5)) rfl rfl rfl rfl ?_
  refine a_l2 rfl rfl rfl ?_
  refine a_iastv (k := 23 + 6 * i + 5) rfl (n := 2033) rfl (inI_nI (by omega) (by omega)) (nI_clamp (by omega)) ?_
  exact a_vret rfl rfl ⟨rfl, rfl⟩
theorem h_finishes {i : Nat} (hi : i < 12) : SpE S m_X12_finishes 14 [.ref 420, .int (nI i)] (hp I L w1 w2 t) none (hp (up2 (up2 I 421 (23 + 6 * i + 1) 0) 421 (23 + 6 * i + 5) 1) L w1 w2 t) := by
  refine SpE_of ok_X12_finishes rfl rfl ?_
  show AW S m_X12_finishes 14 _ _ 0 0 0 [some (.ref 420), some (.int (nI i))] [] (hp I L w1 w2 t)
  refine a_l0 rfl rfl rfl ?_
  refine a_getq rfl gfX12_13_12 rfl (rfl) ?_
  refine a_l1 rfl rfl rfl ?_
  refine a_s rfl rfl ?_
  refine a_eS1 rfl lX12_60 mo_X12_at (sp_X12_at (d := i) (k := 1)) rfl rfl rfl rfl ?_
  refine a_s rfl rfl ?_
  refine a_iastv (k := 23 + 6 * i + 1) rfl (n := 2033) rfl (inI_nI (by omega) (by omega)) (nI_clamp (by omega)) ?_
  refine a_l0 rfl rfl rfl ?_
  refine a_l1 rfl rfl rfl ?_
  refine a_s rfl rfl ?_
  refine a_eV0 rfl lX12_354 mo_X12_isNow (h_isNow hi) rfl rfl rfl ⟨12, _, rfl, rfl, rfl⟩ rfl ?_
  exact a_vret rfl rfl ⟨rfl, rfl⟩
theorem h_put (hs : SO nd np (I 421)) (er : I 420 7 = nI r) (hr12 : r ≤ 12) {x1 : Int32} : Sp S m_X12_put 16 0 0 [.ref 420, .int x1] (hp I L w1 w2 t) (QA I r (vS nd (I 421) 0 x1) (mn 99 (I 421 (23 + 6 * ixN x1 + 2) + 1)) (fun J => up2 J 421 (23 + 6 * ixN x1 + 2) (mn 99 (I 421 (23 + 6 * ixN x1 + 2) + 1))) L w1 w2 t) nX := by
  have hn := hs.n
  have hp6 := hs.p
  have e21 : up2 I 420 0 0 421 = I 421 := up2_row (by decide)
  have er0 : up2 I 420 0 0 420 7 = nI r := (up2_ne (Or.inr (by decide))).trans er
  have s0 : SO nd np (up2 I 420 0 0 421) := by rw [e21]; exact hs
  have s1 : SO nd np (remH (up2 I 420 0 0) r 421) := by rw [remH_421]; exact s0
  have e22 : remH (up2 I 420 0 0) r 421 = I 421 := remH_421.trans e21
  refine Sp_of ok_X12_put rfl rfl ?_
  show AW S m_X12_put 16 _ _ 0 0 0 [some (.ref 420), some (.int x1)] [] (hp I L w1 w2 t)
  refine a_l0 rfl rfl rfl ?_
  refine a_s rfl rfl ?_
  refine a_puti rfl pfX12_3_12 rfl ?_
  refine a_l0 rfl rfl rfl ?_
  refine a_l0 rfl rfl rfl ?_
  refine a_l1 rfl rfl rfl ?_
  refine a_eV1 rfl lX12_289 mo_X12_noDuty (r_X12_noDuty s0) rfl rfl rfl ⟨12, _, rfl, rfl, rfl⟩ rfl ?_
  obtain ⟨z, hz⟩ : ∃ z, inB x1 0 (nI nd - 1) = z := ⟨_, rfl⟩
  rw [hz]
  refine a_s rfl rfl ?_
  cases z with
  | false =>
    refine a_eV1 rfl lX12_243 mo_X12_throwsIf (h_throwsIf (z := true)) rfl rfl rfl ⟨12, _, rfl, rfl, rfl⟩ rfl ?_
    rw [if_pos rfl]
    refine a_if_ne rfl (fun _ => ?_) (fun c => absurd c (by decide))
    refine a_s rfl rfl ?_
    exact a_iret rfl rfl (QA.no (if_neg (by rw [hz]; exact Bool.false_ne_true)) (by decide))
  | true =>
    refine a_eV1 rfl lX12_243 mo_X12_throwsIf (h_throwsIf (z := false)) rfl rfl rfl ⟨12, _, rfl, rfl, rfl⟩ rfl ?_
    rw [if_neg Bool.false_ne_true]
    refine a_if_ne rfl (fun c => absurd rfl c) (fun _ => ?_)
    obtain ⟨i, hi, rfl⟩ := inB_ix (by omega) hz
    have hx := ixN_nI (i := i) (by omega)
    refine a_l0 rfl rfl rfl ?_
    refine a_l0 rfl rfl rfl ?_
    refine a_l1 rfl rfl rfl ?_
    refine a_eV1 rfl lX12_135 mo_X12_isWaiting (sp_X12_isWaiting (d := i) (by omega)) rfl rfl rfl ⟨12, _, rfl, rfl, rfl⟩ rfl ?_
    rw [show vd (up2 I 420 0 0 421) 5 i = I 421 (23 + 6 * i + 5) from congrFun e21 _]
    by_cases cw : I 421 (23 + 6 * i + 5) = 0
    · rw [decide_eq_true cw]
      refine a_if_ne rfl (fun _ => ?_) (fun c => absurd c (by decide))
      refine a_s rfl rfl ?_
      refine a_s rfl rfl ?_
      refine a_eV1 rfl lX12_243 mo_X12_throwsIf (h_throwsIf (z := false)) rfl rfl rfl ⟨12, _, rfl, rfl, rfl⟩ rfl ?_
      rw [if_neg Bool.false_ne_true]
      refine a_if_eq rfl (fun _ => ?_) (fun c => absurd rfl c)
      refine a_l0 rfl rfl rfl ?_
      refine a_eV0 rfl lX12_357 mo_X12_remembers (h_remembers er0 hr12) rfl rfl rfl ⟨12, _, rfl, rfl, rfl⟩ rfl ?_
      refine a_l0 rfl rfl rfl ?_
      refine a_getq rfl gfX12_13_12 rfl (rfl) ?_
      refine a_l1 rfl rfl rfl ?_
      refine a_s rfl rfl ?_
      refine a_eS1 rfl lX12_60 mo_X12_at (sp_X12_at (d := i) (k := 2)) rfl rfl rfl rfl ?_
      refine a_s rfl rfl ?_
      refine a_l0 rfl rfl rfl ?_
      refine a_l1 rfl rfl rfl ?_
      refine a_s rfl rfl ?_
      refine a_eV1 rfl lX12_63 mo_X12_of (sp_X12_of (d := i) (k := 2) (by omega) (by decide)) rfl rfl rfl ⟨12, _, rfl, rfl, rfl⟩ rfl ?_
      rw [show vd (remH (up2 I 420 0 0) r 421) 2 i = I 421 (23 + 6 * i + 2) from congrFun e22 _]
      refine a_s rfl rfl ?_
      refine a_s rfl rfl ?_
      refine a_min rfl lX12_295 mj_min rfl rfl ?_
      refine a_iastv (k := (23 + 6 * i + 2)) rfl (n := 2033) rfl (inI_nI (by omega) (by omega)) (nI_clamp (by omega)) ?_
      refine a_l0 rfl rfl rfl ?_
      refine a_l1 rfl rfl rfl ?_
      refine a_s rfl rfl ?_
      refine a_eV1 rfl lX12_63 mo_X12_of (sp_X12_of (d := i) (k := 2) (by omega) (by decide)) rfl rfl rfl ⟨12, _, rfl, rfl, rfl⟩ rfl ?_
      exact a_iret rfl rfl (QA.yes ((if_pos hz).trans (if_pos (by rw [hx]; exact cw))) (by rw [hx]; exact up2_at) (by rw [hx]; rfl))
    · rw [decide_eq_false cw]
      refine a_if_ne rfl (fun c => absurd rfl c) (fun _ => ?_)
      refine a_s rfl rfl ?_
      refine a_goto rfl ?_
      refine a_s rfl rfl ?_
      refine a_eV1 rfl lX12_243 mo_X12_throwsIf (h_throwsIf (z := true)) rfl rfl rfl ⟨12, _, rfl, rfl, rfl⟩ rfl ?_
      rw [if_pos rfl]
      refine a_if_eq rfl (fun c => absurd c (by decide)) (fun _ => ?_)
      refine a_s rfl rfl ?_
      exact a_iret rfl rfl (QA.no ((if_pos hz).trans (if_neg (by rw [hx]; exact cw))) (by decide))
theorem h_forget (hs : SO nd np (I 421)) (er : I 420 7 = nI r) (hr12 : r ≤ 12) {x1 : Int32} : Sp S m_X12_forget 16 0 0 [.ref 420, .int x1] (hp I L w1 w2 t) (QA I r (vS nd (I 421) 0 x1) (I 421 (23 + 6 * ixN x1 + 1)) (fun J => up2 J 421 (23 + 6 * ixN x1 + 5) 2) L w1 w2 t) nX := by
  have hn := hs.n
  have hp6 := hs.p
  have e21 : up2 I 420 0 0 421 = I 421 := up2_row (by decide)
  have er0 : up2 I 420 0 0 420 7 = nI r := (up2_ne (Or.inr (by decide))).trans er
  have s0 : SO nd np (up2 I 420 0 0 421) := by rw [e21]; exact hs
  have s1 : SO nd np (remH (up2 I 420 0 0) r 421) := by rw [remH_421]; exact s0
  have e22 : remH (up2 I 420 0 0) r 421 = I 421 := remH_421.trans e21
  refine Sp_of ok_X12_forget rfl rfl ?_
  show AW S m_X12_forget 16 _ _ 0 0 0 [some (.ref 420), some (.int x1)] [] (hp I L w1 w2 t)
  refine a_l0 rfl rfl rfl ?_
  refine a_s rfl rfl ?_
  refine a_puti rfl pfX12_3_12 rfl ?_
  refine a_l0 rfl rfl rfl ?_
  refine a_l0 rfl rfl rfl ?_
  refine a_l1 rfl rfl rfl ?_
  refine a_eV1 rfl lX12_289 mo_X12_noDuty (r_X12_noDuty s0) rfl rfl rfl ⟨12, _, rfl, rfl, rfl⟩ rfl ?_
  obtain ⟨z, hz⟩ : ∃ z, inB x1 0 (nI nd - 1) = z := ⟨_, rfl⟩
  rw [hz]
  refine a_s rfl rfl ?_
  cases z with
  | false =>
    refine a_eV1 rfl lX12_243 mo_X12_throwsIf (h_throwsIf (z := true)) rfl rfl rfl ⟨12, _, rfl, rfl, rfl⟩ rfl ?_
    rw [if_pos rfl]
    refine a_if_ne rfl (fun _ => ?_) (fun c => absurd c (by decide))
    refine a_s rfl rfl ?_
    exact a_iret rfl rfl (QA.no (if_neg (by rw [hz]; exact Bool.false_ne_true)) (by decide))
  | true =>
    refine a_eV1 rfl lX12_243 mo_X12_throwsIf (h_throwsIf (z := false)) rfl rfl rfl ⟨12, _, rfl, rfl, rfl⟩ rfl ?_
    rw [if_neg Bool.false_ne_true]
    refine a_if_ne rfl (fun c => absurd rfl c) (fun _ => ?_)
    obtain ⟨i, hi, rfl⟩ := inB_ix (by omega) hz
    have hx := ixN_nI (i := i) (by omega)
    refine a_l0 rfl rfl rfl ?_
    refine a_l0 rfl rfl rfl ?_
    refine a_l1 rfl rfl rfl ?_
    refine a_eV1 rfl lX12_135 mo_X12_isWaiting (sp_X12_isWaiting (d := i) (by omega)) rfl rfl rfl ⟨12, _, rfl, rfl, rfl⟩ rfl ?_
    rw [show vd (up2 I 420 0 0 421) 5 i = I 421 (23 + 6 * i + 5) from congrFun e21 _]
    by_cases cw : I 421 (23 + 6 * i + 5) = 0
    · rw [decide_eq_true cw]
      refine a_if_ne rfl (fun _ => ?_) (fun c => absurd c (by decide))
      refine a_s rfl rfl ?_
      refine a_s rfl rfl ?_
      refine a_eV1 rfl lX12_243 mo_X12_throwsIf (h_throwsIf (z := false)) rfl rfl rfl ⟨12, _, rfl, rfl, rfl⟩ rfl ?_
      rw [if_neg Bool.false_ne_true]
      refine a_if_eq rfl (fun _ => ?_) (fun c => absurd rfl c)
      refine a_l0 rfl rfl rfl ?_
      refine a_eV0 rfl lX12_357 mo_X12_remembers (h_remembers er0 hr12) rfl rfl rfl ⟨12, _, rfl, rfl, rfl⟩ rfl ?_
      refine a_l0 rfl rfl rfl ?_
      refine a_l1 rfl rfl rfl ?_
      refine a_s rfl rfl ?_
      refine a_eV0 rfl lX12_354 mo_X12_isNow (h_isNow (i := i) (by omega)) rfl rfl rfl ⟨12, _, rfl, rfl, rfl⟩ rfl ?_
      refine a_l0 rfl rfl rfl ?_
      refine a_l1 rfl rfl rfl ?_
      refine a_s rfl rfl ?_
      refine a_eV1 rfl lX12_63 mo_X12_of (sp_X12_of (d := i) (k := 1) (by omega) (by decide)) rfl rfl rfl ⟨12, _, rfl, rfl, rfl⟩ rfl ?_
      exact a_iret rfl rfl (QA.yes ((if_pos hz).trans (if_pos (by rw [hx]; exact cw))) (by rw [hx, show vd (up2 (remH (up2 I 420 0 0) r) 421 (23 + 6 * i + 5) 2 421) 1 i = remH (up2 I 420 0 0) r 421 (23 + 6 * i + 1) from up2_ne (Or.inr (by omega)), e22]) (by rw [hx]))
    · rw [decide_eq_false cw]
      refine a_if_ne rfl (fun c => absurd rfl c) (fun _ => ?_)
      refine a_s rfl rfl ?_
      refine a_goto rfl ?_
      refine a_s rfl rfl ?_
      refine a_eV1 rfl lX12_243 mo_X12_throwsIf (h_throwsIf (z := true)) rfl rfl rfl ⟨12, _, rfl, rfl, rfl⟩ rfl ?_
      rw [if_pos rfl]
      refine a_if_eq rfl (fun c => absurd c (by decide)) (fun _ => ?_)
      refine a_s rfl rfl ?_
      exact a_iret rfl rfl (QA.no ((if_pos hz).trans (if_neg (by rw [hx]; exact cw))) (by decide))
theorem h_recall (hs : SO nd np (I 421)) (er : I 420 7 = nI r) (hr12 : r ≤ 12) {x1 : Int32} : Sp S m_X12_recall 16 0 0 [.ref 420, .int x1] (hp I L w1 w2 t) (QA I r (vS nd (I 421) 2 x1) (I 421 (23 + 6 * ixN x1 + 2)) (fun J => up2 J 421 (23 + 6 * ixN x1 + 5) 0) L w1 w2 t) nX := by
  have hn := hs.n
  have hp6 := hs.p
  have e21 : up2 I 420 0 0 421 = I 421 := up2_row (by decide)
  have er0 : up2 I 420 0 0 420 7 = nI r := (up2_ne (Or.inr (by decide))).trans er
  have s0 : SO nd np (up2 I 420 0 0 421) := by rw [e21]; exact hs
  have s1 : SO nd np (remH (up2 I 420 0 0) r 421) := by rw [remH_421]; exact s0
  have e22 : remH (up2 I 420 0 0) r 421 = I 421 := remH_421.trans e21
  refine Sp_of ok_X12_recall rfl rfl ?_
  show AW S m_X12_recall 16 _ _ 0 0 0 [some (.ref 420), some (.int x1)] [] (hp I L w1 w2 t)
  refine a_l0 rfl rfl rfl ?_
  refine a_s rfl rfl ?_
  refine a_puti rfl pfX12_3_12 rfl ?_
  refine a_l0 rfl rfl rfl ?_
  refine a_l0 rfl rfl rfl ?_
  refine a_l1 rfl rfl rfl ?_
  refine a_eV1 rfl lX12_289 mo_X12_noDuty (r_X12_noDuty s0) rfl rfl rfl ⟨12, _, rfl, rfl, rfl⟩ rfl ?_
  obtain ⟨z, hz⟩ : ∃ z, inB x1 0 (nI nd - 1) = z := ⟨_, rfl⟩
  rw [hz]
  refine a_s rfl rfl ?_
  cases z with
  | false =>
    refine a_eV1 rfl lX12_243 mo_X12_throwsIf (h_throwsIf (z := true)) rfl rfl rfl ⟨12, _, rfl, rfl, rfl⟩ rfl ?_
    rw [if_pos rfl]
    refine a_if_ne rfl (fun _ => ?_) (fun c => absurd c (by decide))
    refine a_s rfl rfl ?_
    exact a_iret rfl rfl (QA.no (if_neg (by rw [hz]; exact Bool.false_ne_true)) (by decide))
  | true =>
    refine a_eV1 rfl lX12_243 mo_X12_throwsIf (h_throwsIf (z := false)) rfl rfl rfl ⟨12, _, rfl, rfl, rfl⟩ rfl ?_
    rw [if_neg Bool.false_ne_true]
    refine a_if_ne rfl (fun c => absurd rfl c) (fun _ => ?_)
    obtain ⟨i, hi, rfl⟩ := inB_ix (by omega) hz
    have hx := ixN_nI (i := i) (by omega)
    refine a_l0 rfl rfl rfl ?_
    refine a_l0 rfl rfl rfl ?_
    refine a_l1 rfl rfl rfl ?_
    refine a_eV1 rfl lX12_364 mo_X12_isForgotten (sp_X12_isForgotten (d := i) (by omega)) rfl rfl rfl ⟨12, _, rfl, rfl, rfl⟩ rfl ?_
    rw [show vd (up2 I 420 0 0 421) 5 i = I 421 (23 + 6 * i + 5) from congrFun e21 _]
    by_cases cw : I 421 (23 + 6 * i + 5) = 2
    · rw [decide_eq_true cw]
      refine a_if_ne rfl (fun _ => ?_) (fun c => absurd c (by decide))
      refine a_s rfl rfl ?_
      refine a_s rfl rfl ?_
      refine a_eV1 rfl lX12_243 mo_X12_throwsIf (h_throwsIf (z := false)) rfl rfl rfl ⟨12, _, rfl, rfl, rfl⟩ rfl ?_
      rw [if_neg Bool.false_ne_true]
      refine a_if_eq rfl (fun _ => ?_) (fun c => absurd rfl c)
      refine a_l0 rfl rfl rfl ?_
      refine a_eV0 rfl lX12_357 mo_X12_remembers (h_remembers er0 hr12) rfl rfl rfl ⟨12, _, rfl, rfl, rfl⟩ rfl ?_
      refine a_l0 rfl rfl rfl ?_
      refine a_l1 rfl rfl rfl ?_
      refine a_s rfl rfl ?_
      refine a_eV0 rfl lX12_354 mo_X12_isNow (h_isNow (i := i) (by omega)) rfl rfl rfl ⟨12, _, rfl, rfl, rfl⟩ rfl ?_
      refine a_l0 rfl rfl rfl ?_
      refine a_l1 rfl rfl rfl ?_
      refine a_s rfl rfl ?_
      refine a_eV1 rfl lX12_63 mo_X12_of (sp_X12_of (d := i) (k := 2) (by omega) (by decide)) rfl rfl rfl ⟨12, _, rfl, rfl, rfl⟩ rfl ?_
      exact a_iret rfl rfl (QA.yes ((if_pos hz).trans (if_pos (by rw [hx]; exact cw))) (by rw [hx, show vd (up2 (remH (up2 I 420 0 0) r) 421 (23 + 6 * i + 5) 0 421) 2 i = remH (up2 I 420 0 0) r 421 (23 + 6 * i + 2) from up2_ne (Or.inr (by omega)), e22]) (by rw [hx]))
    · rw [decide_eq_false cw]
      refine a_if_ne rfl (fun c => absurd rfl c) (fun _ => ?_)
      refine a_s rfl rfl ?_
      refine a_goto rfl ?_
      refine a_s rfl rfl ?_
      refine a_eV1 rfl lX12_243 mo_X12_throwsIf (h_throwsIf (z := true)) rfl rfl rfl ⟨12, _, rfl, rfl, rfl⟩ rfl ?_
      rw [if_pos rfl]
      refine a_if_eq rfl (fun c => absurd c (by decide)) (fun _ => ?_)
      refine a_s rfl rfl ?_
      exact a_iret rfl rfl (QA.no ((if_pos hz).trans (if_neg (by rw [hx]; exact cw))) (by decide))
theorem h_call (hs : SO nd np (I 421)) (er : I 420 7 = nI r) (hr12 : r ≤ 12) {x1 : Int32} : Sp S m_X12_call 19 0 0 [.ref 420, .int x1] (hp I L w1 w2 t) (QA I r (vC nd (I 421) x1) (passR nd (I 421) (ixN x1)) (fun J => up2 (up2 J 421 (23 + 6 * ixN x1 + 1) 0) 421 (23 + 6 * ixN x1 + 5) 1) L w1 w2 t) nX := by
  have hn := hs.n
  have hp6 := hs.p
  have e21 : up2 I 420 0 0 421 = I 421 := up2_row (by decide)
  have er0 : up2 I 420 0 0 420 7 = nI r := (up2_ne (Or.inr (by decide))).trans er
  have s0 : SO nd np (up2 I 420 0 0 421) := by rw [e21]; exact hs
  have s1 : SO nd np (remH (up2 I 420 0 0) r 421) := by rw [remH_421]; exact s0
  have e22 : remH (up2 I 420 0 0) r 421 = I 421 := remH_421.trans e21
  refine Sp_of ok_X12_call rfl rfl ?_
  show AW S m_X12_call 19 _ _ 0 0 0 [some (.ref 420), some (.int x1), none] [] (hp I L w1 w2 t)
  refine a_l0 rfl rfl rfl ?_
  refine a_s rfl rfl ?_
  refine a_puti rfl pfX12_3_12 rfl ?_
  refine a_l0 rfl rfl rfl ?_
  refine a_l0 rfl rfl rfl ?_
  refine a_l1 rfl rfl rfl ?_
  refine a_eV1 rfl lX12_289 mo_X12_noDuty (r_X12_noDuty s0) rfl rfl rfl ⟨12, _, rfl, rfl, rfl⟩ rfl ?_
  obtain ⟨z, hz⟩ : ∃ z, inB x1 0 (nI nd - 1) = z := ⟨_, rfl⟩
  rw [hz]
  refine a_s rfl rfl ?_
  cases z with
  | false =>
    refine a_eV1 rfl lX12_243 mo_X12_throwsIf (h_throwsIf (z := true)) rfl rfl rfl ⟨12, _, rfl, rfl, rfl⟩ rfl ?_
    rw [if_pos rfl]
    refine a_if_ne rfl (fun _ => ?_) (fun c => absurd c (by decide))
    refine a_s rfl rfl ?_
    exact a_iret rfl rfl (QA.no (if_neg (by rw [hz]; exact Bool.false_ne_true)) (by decide))
  | true =>
    refine a_eV1 rfl lX12_243 mo_X12_throwsIf (h_throwsIf (z := false)) rfl rfl rfl ⟨12, _, rfl, rfl, rfl⟩ rfl ?_
    rw [if_neg Bool.false_ne_true]
    refine a_if_ne rfl (fun c => absurd rfl c) (fun _ => ?_)
    obtain ⟨i, hi, rfl⟩ := inB_ix (by omega) hz
    have hx := ixN_nI (i := i) (by omega)
    refine a_l0 rfl rfl rfl ?_
    refine a_l0 rfl rfl rfl ?_
    refine a_l1 rfl rfl rfl ?_
    refine a_eV1 rfl lX12_280 mo_X12_canBeCalled (sp_X12_canBeCalled (nd := nd) hn s0.du s0.l hi) rfl rfl rfl ⟨12, _, rfl, rfl, rfl⟩ rfl ?_
    rw [e21]
    by_cases cw : canR nd (I 421) i = true
    · rw [cw]
      refine a_if_ne rfl (fun _ => ?_) (fun c => absurd c (by decide))
      refine a_s rfl rfl ?_
      refine a_s rfl rfl ?_
      refine a_eV1 rfl lX12_243 mo_X12_throwsIf (h_throwsIf (z := false)) rfl rfl rfl ⟨12, _, rfl, rfl, rfl⟩ rfl ?_
      rw [if_neg Bool.false_ne_true]
      refine a_if_eq rfl (fun _ => ?_) (fun c => absurd rfl c)
      refine a_l0 rfl rfl rfl ?_
      refine a_eV0 rfl lX12_357 mo_X12_remembers (h_remembers er0 hr12) rfl rfl rfl ⟨12, _, rfl, rfl, rfl⟩ rfl ?_
      refine a_l0 rfl rfl rfl ?_
      refine a_l1 rfl rfl rfl ?_
      refine a_eV1 rfl lX12_276 mo_X12_passesBy (sp_X12_passesBy (nd := nd) hn s1.du hi) rfl rfl rfl ⟨12, _, rfl, rfl, rfl⟩ rfl ?_
      refine a_s2 rfl rfl rfl rfl rfl rfl ?_
      refine a_l0 rfl rfl rfl ?_
      refine a_l1 rfl rfl rfl ?_
      refine a_eV0 rfl lX12_360 mo_X12_finishes (h_finishes (i := i) (by omega)) rfl rfl rfl ⟨12, _, rfl, rfl, rfl⟩ rfl ?_
      refine a_l2 rfl rfl rfl ?_
      exact a_iret rfl rfl (QA.yes ((if_pos hz).trans (if_pos (by rw [hx]; exact cw))) (by rw [hx, e22]) (by rw [hx]))
    · rw [Bool.eq_false_iff.mpr cw]
      refine a_if_ne rfl (fun c => absurd rfl c) (fun _ => ?_)
      refine a_s rfl rfl ?_
      refine a_goto rfl ?_
      refine a_s rfl rfl ?_
      refine a_eV1 rfl lX12_243 mo_X12_throwsIf (h_throwsIf (z := true)) rfl rfl rfl ⟨12, _, rfl, rfl, rfl⟩ rfl ?_
      rw [if_pos rfl]
      refine a_if_eq rfl (fun c => absurd c (by decide)) (fun _ => ?_)
      refine a_s rfl rfl ?_
      exact a_iret rfl rfl (QA.no ((if_pos hz).trans (if_neg (by rw [hx]; exact cw))) (by decide))
theorem h_hand (hs : SO nd np (I 421)) (er : I 420 7 = nI r) (hr12 : r ≤ 12) {x1 x2 : Int32} : Sp S m_X12_hand 16 0 0 [.ref 420, .int x1, .int x2] (hp I L w1 w2 t) (QA I r (vH nd np (I 421) x1 x2) (I 421 (23 + 6 * ixN x1 + 0)) (fun J => up2 J 421 (23 + 6 * ixN x1 + 0) x2) L w1 w2 t) nX := by
  have hn := hs.n
  have hp6 := hs.p
  have e21 : up2 I 420 0 0 421 = I 421 := up2_row (by decide)
  have er0 : up2 I 420 0 0 420 7 = nI r := (up2_ne (Or.inr (by decide))).trans er
  have s0 : SO nd np (up2 I 420 0 0 421) := by rw [e21]; exact hs
  have s1 : SO nd np (remH (up2 I 420 0 0) r 421) := by rw [remH_421]; exact s0
  have e22 : remH (up2 I 420 0 0) r 421 = I 421 := remH_421.trans e21
  refine Sp_of ok_X12_hand rfl rfl ?_
  show AW S m_X12_hand 16 _ _ 0 0 0 [some (.ref 420), some (.int x1), some (.int x2), none] [] (hp I L w1 w2 t)
  refine a_l0 rfl rfl rfl ?_
  refine a_s rfl rfl ?_
  refine a_puti rfl pfX12_3_12 rfl ?_
  refine a_l0 rfl rfl rfl ?_
  refine a_l0 rfl rfl rfl ?_
  refine a_l1 rfl rfl rfl ?_
  refine a_eV1 rfl lX12_289 mo_X12_noDuty (r_X12_noDuty s0) rfl rfl rfl ⟨12, _, rfl, rfl, rfl⟩ rfl ?_
  obtain ⟨z, hz⟩ : ∃ z, inB x1 0 (nI nd - 1) = z := ⟨_, rfl⟩
  rw [hz]
  cases z with
  | false =>
    refine a_if_ne rfl (fun _ => ?_) (fun c => absurd c (by decide))
    refine a_s rfl rfl ?_
    refine a_goto rfl ?_
    refine a_s rfl rfl ?_
    refine a_eV1 rfl lX12_243 mo_X12_throwsIf (h_throwsIf (z := true)) rfl rfl rfl ⟨12, _, rfl, rfl, rfl⟩ rfl ?_
    rw [if_pos rfl]
    refine a_if_ne rfl (fun _ => ?_) (fun c => absurd c (by decide))
    refine a_s rfl rfl ?_
    exact a_iret rfl rfl (QA.no (if_neg (fun z => by rw [hz] at z; exact Bool.false_ne_true z.1)) (by decide))
  | true =>
  refine a_if_ne rfl (fun c => absurd rfl c) (fun _ => ?_)
  refine a_l0 rfl rfl rfl ?_
  refine a_l2 rfl rfl rfl ?_
  refine a_eV1 rfl lX12_342 mo_X12_noPerson (r_X12_noPerson s0) rfl rfl rfl ⟨12, _, rfl, rfl, rfl⟩ rfl ?_
  obtain ⟨z2, hz2⟩ : ∃ z, inB x2 0 (nI np - 1) = z := ⟨_, rfl⟩
  rw [hz2]
  cases z2 with
  | false =>
    refine a_if_eq rfl (fun c => absurd c (by decide)) (fun _ => ?_)
    refine a_s rfl rfl ?_
    refine a_goto rfl ?_
    refine a_s rfl rfl ?_
    refine a_eV1 rfl lX12_243 mo_X12_throwsIf (h_throwsIf (z := true)) rfl rfl rfl ⟨12, _, rfl, rfl, rfl⟩ rfl ?_
    rw [if_pos rfl]
    refine a_if_ne rfl (fun _ => ?_) (fun c => absurd c (by decide))
    refine a_s rfl rfl ?_
    exact a_iret rfl rfl (QA.no (if_neg (fun z => by rw [hz2] at z; exact Bool.false_ne_true z.2)) (by decide))
  | true =>
  refine a_if_eq rfl (fun _ => ?_) (fun c => absurd rfl c)
  refine a_s rfl rfl ?_
  refine a_s rfl rfl ?_
  refine a_eV1 rfl lX12_243 mo_X12_throwsIf (h_throwsIf (z := false)) rfl rfl rfl ⟨12, _, rfl, rfl, rfl⟩ rfl ?_
  rw [if_neg Bool.false_ne_true]
  refine a_if_ne rfl (fun c => absurd rfl c) (fun _ => ?_)
  obtain ⟨i, hi, rfl⟩ := inB_ix (by omega) hz
  have hx := ixN_nI (i := i) (by omega)
  refine a_l0 rfl rfl rfl ?_
  refine a_l0 rfl rfl rfl ?_
  refine a_l1 rfl rfl rfl ?_
  refine a_s rfl rfl ?_
  refine a_eV1 rfl lX12_63 mo_X12_of (sp_X12_of (d := i) (k := 0) (by omega) (by decide)) rfl rfl rfl ⟨12, _, rfl, rfl, rfl⟩ rfl ?_
  rw [show vd (up2 I 420 0 0 421) 0 i = I 421 (23 + 6 * i + 0) from congrFun e21 _]
  refine a_l2 rfl rfl rfl ?_
  refine a_ic_ne rfl (fun c => ?_) (fun c => ?_)
  rotate_left
  · refine a_s rfl rfl ?_
    refine a_goto rfl ?_
    refine a_s rfl rfl ?_
    refine a_eV1 rfl lX12_243 mo_X12_throwsIf (h_throwsIf (z := true)) rfl rfl rfl ⟨12, _, rfl, rfl, rfl⟩ rfl ?_
    rw [if_pos rfl]
    refine a_if_ne rfl (fun _ => ?_) (fun c => absurd c (by decide))
    refine a_s rfl rfl ?_
    exact a_iret rfl rfl (QA.no ((if_pos ⟨hz, hz2⟩).trans (if_pos (by rw [hx]; exact c))) (by decide))
  refine a_s rfl rfl ?_
  refine a_s rfl rfl ?_
  refine a_eV1 rfl lX12_243 mo_X12_throwsIf (h_throwsIf (z := false)) rfl rfl rfl ⟨12, _, rfl, rfl, rfl⟩ rfl ?_
  rw [if_neg Bool.false_ne_true]
  refine a_if_ne rfl (fun c => absurd rfl c) (fun _ => ?_)
  refine a_l0 rfl rfl rfl ?_
  refine a_l0 rfl rfl rfl ?_
  refine a_l1 rfl rfl rfl ?_
  refine a_eV1 rfl lX12_246 mo_X12_isDone (sp_X12_isDone (d := i) (by omega)) rfl rfl rfl ⟨12, _, rfl, rfl, rfl⟩ rfl ?_
  rw [show vd (up2 I 420 0 0 421) 5 i = I 421 (23 + 6 * i + 5) from congrFun e21 _]
  refine a_s rfl rfl ?_
  by_cases cw : I 421 (23 + 6 * i + 5) = 1
  · rw [decide_eq_true cw]
    refine a_eV1 rfl lX12_243 mo_X12_throwsIf (h_throwsIf (z := true)) rfl rfl rfl ⟨12, _, rfl, rfl, rfl⟩ rfl ?_
    rw [if_pos rfl]
    refine a_if_eq rfl (fun c => absurd c (by decide)) (fun _ => ?_)
    refine a_s rfl rfl ?_
    exact a_iret rfl rfl (QA.no ((if_pos ⟨hz, hz2⟩).trans ((if_neg (by rw [hx]; exact c)).trans (if_pos (by rw [hx]; exact cw)))) (by decide))
  · rw [decide_eq_false cw]
    refine a_eV1 rfl lX12_243 mo_X12_throwsIf (h_throwsIf (z := false)) rfl rfl rfl ⟨12, _, rfl, rfl, rfl⟩ rfl ?_
    rw [if_neg Bool.false_ne_true]
    refine a_if_eq rfl (fun _ => ?_) (fun c => absurd rfl c)
    refine a_l0 rfl rfl rfl ?_
    refine a_eV0 rfl lX12_357 mo_X12_remembers (h_remembers er0 hr12) rfl rfl rfl ⟨12, _, rfl, rfl, rfl⟩ rfl ?_
    refine a_l0 rfl rfl rfl ?_
    refine a_l1 rfl rfl rfl ?_
    refine a_s rfl rfl ?_
    refine a_eV1 rfl lX12_63 mo_X12_of (sp_X12_of (d := i) (k := 0) (by omega) (by decide)) rfl rfl rfl ⟨12, _, rfl, rfl, rfl⟩ rfl ?_
    refine a_s3 rfl rfl rfl rfl rfl rfl ?_
    refine a_l0 rfl rfl rfl ?_
    refine a_getq rfl gfX12_13_12 rfl (rfl) ?_
    refine a_l1 rfl rfl rfl ?_
    refine a_s rfl rfl ?_
    refine a_eS1 rfl lX12_60 mo_X12_at (sp_X12_at (d := i) (k := 0)) rfl rfl rfl rfl ?_
    refine a_l2 rfl rfl rfl ?_
    refine a_iastv (k := (23 + 6 * i + 0)) rfl (n := 2033) rfl (inI_nI (by omega) (by omega)) (nI_clamp (by omega)) ?_
    refine a_l3 rfl rfl rfl ?_
    exact a_iret rfl rfl (QA.yes ((if_pos ⟨hz, hz2⟩).trans ((if_neg (by rw [hx]; exact c)).trans (if_neg (by rw [hx]; exact cw)))) (by rw [hx]; exact congrFun e22 _) (by rw [hx]))
theorem h_lean (hs : SO nd np (I 421)) (er : I 420 7 = nI r) (hr12 : r ≤ 12) {x1 x2 : Int32} : Sp S m_X12_lean 16 0 0 [.ref 420, .int x1, .int x2] (hp I L w1 w2 t) (QA I r (vL nd x1 x2) (I 421 (23 + 6 * ixN x1 + 4)) (fun J => up2 J 421 (23 + 6 * ixN x1 + 4) x2) L w1 w2 t) nX := by
  have hn := hs.n
  have hp6 := hs.p
  have e21 : up2 I 420 0 0 421 = I 421 := up2_row (by decide)
  have er0 : up2 I 420 0 0 420 7 = nI r := (up2_ne (Or.inr (by decide))).trans er
  have s0 : SO nd np (up2 I 420 0 0 421) := by rw [e21]; exact hs
  have s1 : SO nd np (remH (up2 I 420 0 0) r 421) := by rw [remH_421]; exact s0
  have e22 : remH (up2 I 420 0 0) r 421 = I 421 := remH_421.trans e21
  refine Sp_of ok_X12_lean rfl rfl ?_
  show AW S m_X12_lean 16 _ _ 0 0 0 [some (.ref 420), some (.int x1), some (.int x2), none] [] (hp I L w1 w2 t)
  refine a_l0 rfl rfl rfl ?_
  refine a_s rfl rfl ?_
  refine a_puti rfl pfX12_3_12 rfl ?_
  refine a_l0 rfl rfl rfl ?_
  refine a_l0 rfl rfl rfl ?_
  refine a_l1 rfl rfl rfl ?_
  refine a_eV1 rfl lX12_289 mo_X12_noDuty (r_X12_noDuty s0) rfl rfl rfl ⟨12, _, rfl, rfl, rfl⟩ rfl ?_
  obtain ⟨z, hz⟩ : ∃ z, inB x1 0 (nI nd - 1) = z := ⟨_, rfl⟩
  rw [hz]
  cases z with
  | false =>
    refine a_if_ne rfl (fun _ => ?_) (fun c => absurd c (by decide))
    refine a_s rfl rfl ?_
    refine a_goto rfl ?_
    refine a_s rfl rfl ?_
    refine a_eV1 rfl lX12_243 mo_X12_throwsIf (h_throwsIf (z := true)) rfl rfl rfl ⟨12, _, rfl, rfl, rfl⟩ rfl ?_
    rw [if_pos rfl]
    refine a_if_ne rfl (fun _ => ?_) (fun c => absurd c (by decide))
    refine a_s rfl rfl ?_
    exact a_iret rfl rfl (QA.no (if_neg (fun z => by rw [hz] at z; exact Bool.false_ne_true z.1)) (by decide))
  | true =>
  refine a_if_ne rfl (fun c => absurd rfl c) (fun _ => ?_)
  obtain ⟨i, hi, rfl⟩ := inB_ix (by omega) hz
  have hx := ixN_nI (i := i) (by omega)
  -- both are there
  have k31 : (x2 = -1 ∨ inB x2 0 (nI nd - 1) = true) → AW S m_X12_lean 16 (QA I r (vL nd (nI i) x2) (I 421 (23 + 6 * ixN (nI i) + 4)) (fun J => up2 J 421 (23 + 6 * ixN (nI i) + 4) x2) L w1 w2 t) nX 0 0 31 [some (.ref 420), some (.int (nI i)), some (.int x2), none] [.ref 420] (hp (up2 I 420 0 0) L w1 w2 t) := by
    intro hy
    refine a_s rfl rfl ?_
    refine a_s rfl rfl ?_
    refine a_eV1 rfl lX12_243 mo_X12_throwsIf (h_throwsIf (z := false)) rfl rfl rfl ⟨12, _, rfl, rfl, rfl⟩ rfl ?_
    rw [if_neg Bool.false_ne_true]
    refine a_if_ne rfl (fun c => absurd rfl c) (fun _ => ?_)
    refine a_l0 rfl rfl rfl ?_
    refine a_l1 rfl rfl rfl ?_
    refine a_l2 rfl rfl rfl ?_
    refine a_ic_ne rfl (fun c => ?_) (fun c => ?_)
    rotate_left
    · refine a_s rfl rfl ?_
      refine a_goto rfl ?_
      refine a_s rfl rfl ?_
      refine a_eV1 rfl lX12_243 mo_X12_throwsIf (h_throwsIf (z := true)) rfl rfl rfl ⟨12, _, rfl, rfl, rfl⟩ rfl ?_
      rw [if_pos rfl]
      refine a_if_eq rfl (fun c => absurd c (by decide)) (fun _ => ?_)
      refine a_s rfl rfl ?_
      exact a_iret rfl rfl (QA.no ((if_pos ⟨hz, hy⟩).trans (if_pos c)) (by decide))
    refine a_s rfl rfl ?_
    refine a_s rfl rfl ?_
    refine a_eV1 rfl lX12_243 mo_X12_throwsIf (h_throwsIf (z := false)) rfl rfl rfl ⟨12, _, rfl, rfl, rfl⟩ rfl ?_
    rw [if_neg Bool.false_ne_true]
    refine a_if_eq rfl (fun _ => ?_) (fun c => absurd rfl c)
    refine a_l0 rfl rfl rfl ?_
    refine a_eV0 rfl lX12_357 mo_X12_remembers (h_remembers er0 hr12) rfl rfl rfl ⟨12, _, rfl, rfl, rfl⟩ rfl ?_
    refine a_l0 rfl rfl rfl ?_
    refine a_l1 rfl rfl rfl ?_
    refine a_s rfl rfl ?_
    refine a_eV1 rfl lX12_63 mo_X12_of (sp_X12_of (d := i) (k := 4) (by omega) (by decide)) rfl rfl rfl ⟨12, _, rfl, rfl, rfl⟩ rfl ?_
    refine a_s3 rfl rfl rfl rfl rfl rfl ?_
    refine a_l0 rfl rfl rfl ?_
    refine a_getq rfl gfX12_13_12 rfl (rfl) ?_
    refine a_l1 rfl rfl rfl ?_
    refine a_s rfl rfl ?_
    refine a_eS1 rfl lX12_60 mo_X12_at (sp_X12_at (d := i) (k := 4)) rfl rfl rfl rfl ?_
    refine a_l2 rfl rfl rfl ?_
    refine a_iastv (k := (23 + 6 * i + 4)) rfl (n := 2033) rfl (inI_nI (by omega) (by omega)) (nI_clamp (by omega)) ?_
    refine a_l3 rfl rfl rfl ?_
    exact a_iret rfl rfl (QA.yes ((if_pos ⟨hz, hy⟩).trans (if_neg c)) (by rw [hx]; exact congrFun e22 _) (by rw [hx]))
  refine a_l2 rfl rfl rfl ?_
  refine a_s rfl rfl ?_
  refine a_ic_eq rfl (fun c => k31 (Or.inl c)) (fun c => ?_)
  refine a_l0 rfl rfl rfl ?_
  refine a_l2 rfl rfl rfl ?_
  refine a_eV1 rfl lX12_289 mo_X12_noDuty (r_X12_noDuty s0) rfl rfl rfl ⟨12, _, rfl, rfl, rfl⟩ rfl ?_
  obtain ⟨z2, hz2⟩ : ∃ z, inB x2 0 (nI nd - 1) = z := ⟨_, rfl⟩
  rw [hz2]
  cases z2 with
  | false =>
    refine a_if_eq rfl (fun c => absurd c (by decide)) (fun _ => ?_)
    refine a_s rfl rfl ?_
    refine a_goto rfl ?_
    refine a_s rfl rfl ?_
    refine a_eV1 rfl lX12_243 mo_X12_throwsIf (h_throwsIf (z := true)) rfl rfl rfl ⟨12, _, rfl, rfl, rfl⟩ rfl ?_
    rw [if_pos rfl]
    refine a_if_ne rfl (fun _ => ?_) (fun c => absurd c (by decide))
    refine a_s rfl rfl ?_
    exact a_iret rfl rfl (QA.no (if_neg (fun z => z.2.elim c (fun y => by rw [hz2] at y; exact Bool.false_ne_true y))) (by decide))
  | true =>
    exact a_if_eq rfl (fun _ => k31 (Or.inr hz2)) (fun c => absurd rfl c)
theorem h_free (hs : SO nd np (I 421)) (er : I 420 7 = nI r) (hr12 : r ≤ 12) {x1 x2 : Int32} : Sp S m_X12_free 16 0 0 [.ref 420, .int x1, .int x2] (hp I L w1 w2 t) (QA I r (vF np x1 x2) (I 421 (11 + 2 * ixN x1 + 1)) (fun J => up2 J 421 (11 + 2 * ixN x1 + 1) x2) L w1 w2 t) nX := by
  have hn := hs.n
  have hp6 := hs.p
  have e21 : up2 I 420 0 0 421 = I 421 := up2_row (by decide)
  have er0 : up2 I 420 0 0 420 7 = nI r := (up2_ne (Or.inr (by decide))).trans er
  have s0 : SO nd np (up2 I 420 0 0 421) := by rw [e21]; exact hs
  have s1 : SO nd np (remH (up2 I 420 0 0) r 421) := by rw [remH_421]; exact s0
  have e22 : remH (up2 I 420 0 0) r 421 = I 421 := remH_421.trans e21
  refine Sp_of ok_X12_free rfl rfl ?_
  show AW S m_X12_free 16 _ _ 0 0 0 [some (.ref 420), some (.int x1), some (.int x2), none] [] (hp I L w1 w2 t)
  refine a_l0 rfl rfl rfl ?_
  refine a_s rfl rfl ?_
  refine a_puti rfl pfX12_3_12 rfl ?_
  refine a_l0 rfl rfl rfl ?_
  refine a_l0 rfl rfl rfl ?_
  refine a_l1 rfl rfl rfl ?_
  refine a_eV1 rfl lX12_342 mo_X12_noPerson (r_X12_noPerson s0) rfl rfl rfl ⟨12, _, rfl, rfl, rfl⟩ rfl ?_
  obtain ⟨z, hz⟩ : ∃ z, inB x1 0 (nI np - 1) = z := ⟨_, rfl⟩
  rw [hz]
  refine a_s rfl rfl ?_
  cases z with
  | false =>
    refine a_eV1 rfl lX12_243 mo_X12_throwsIf (h_throwsIf (z := true)) rfl rfl rfl ⟨12, _, rfl, rfl, rfl⟩ rfl ?_
    rw [if_pos rfl]
    refine a_if_ne rfl (fun _ => ?_) (fun c => absurd c (by decide))
    refine a_s rfl rfl ?_
    exact a_iret rfl rfl (QA.no (if_neg (by rw [hz]; exact Bool.false_ne_true)) (by decide))
  | true =>
  refine a_eV1 rfl lX12_243 mo_X12_throwsIf (h_throwsIf (z := false)) rfl rfl rfl ⟨12, _, rfl, rfl, rfl⟩ rfl ?_
  rw [if_neg Bool.false_ne_true]
  refine a_if_ne rfl (fun c => absurd rfl c) (fun _ => ?_)
  obtain ⟨i, hi, rfl⟩ := inB_ix (by omega) hz
  have hx := ixN_nI (i := i) (by omega)
  refine a_l0 rfl rfl rfl ?_
  refine a_l2 rfl rfl rfl ?_
  refine a_s rfl rfl ?_
  refine a_s rfl rfl ?_
  refine a_eS1 rfl lX12_70 mo_X12_in sp_X12_in rfl rfl rfl rfl ?_
  obtain ⟨z2, hz2⟩ : ∃ z, inB x2 0 9 = z := ⟨_, rfl⟩
  rw [hz2]
  cases z2 with
  | false =>
    refine a_if_ne rfl (fun c => absurd rfl c) (fun _ => ?_)
    refine a_s rfl rfl ?_
    refine a_goto rfl ?_
    refine a_s rfl rfl ?_
    refine a_eV1 rfl lX12_243 mo_X12_throwsIf (h_throwsIf (z := true)) rfl rfl rfl ⟨12, _, rfl, rfl, rfl⟩ rfl ?_
    rw [if_pos rfl]
    refine a_if_eq rfl (fun c => absurd c (by decide)) (fun _ => ?_)
    refine a_s rfl rfl ?_
    exact a_iret rfl rfl (QA.no ((if_pos hz).trans (if_neg (by rw [hz2]; exact Bool.false_ne_true))) (by decide))
  | true =>
    refine a_if_ne rfl (fun _ => ?_) (fun c => absurd c (by decide))
    refine a_s rfl rfl ?_
    refine a_s rfl rfl ?_
    refine a_eV1 rfl lX12_243 mo_X12_throwsIf (h_throwsIf (z := false)) rfl rfl rfl ⟨12, _, rfl, rfl, rfl⟩ rfl ?_
    rw [if_neg Bool.false_ne_true]
    refine a_if_eq rfl (fun _ => ?_) (fun c => absurd rfl c)
    refine a_l0 rfl rfl rfl ?_
    refine a_eV0 rfl lX12_357 mo_X12_remembers (h_remembers er0 hr12) rfl rfl rfl ⟨12, _, rfl, rfl, rfl⟩ rfl ?_
    refine a_l0 rfl rfl rfl ?_
    refine a_l1 rfl rfl rfl ?_
    refine a_s rfl rfl ?_
    refine a_eV1 rfl lX12_252 mo_X12_ofPerson (sp_X12_ofPerson (d := i) (k := 1) (by omega) (by decide)) rfl rfl rfl ⟨12, _, rfl, rfl, rfl⟩ rfl ?_
    refine a_s3 rfl rfl rfl rfl rfl rfl ?_
    refine a_l0 rfl rfl rfl ?_
    refine a_getq rfl gfX12_13_12 rfl (rfl) ?_
    refine a_l1 rfl rfl rfl ?_
    refine a_s rfl rfl ?_
    refine a_eS1 rfl lX12_56 mo_X12_personAt (sp_X12_personAt (d := i) (k := 1)) rfl rfl rfl rfl ?_
    refine a_l2 rfl rfl rfl ?_
    refine a_iastv (k := (11 + 2 * i + 1)) rfl (n := 2033) rfl (inI_nI (by omega) (by omega)) (nI_clamp (by omega)) ?_
    refine a_l3 rfl rfl rfl ?_
    exact a_iret rfl rfl (QA.yes ((if_pos hz).trans (if_pos hz2)) (by rw [hx]; exact congrFun e22 _) (by rw [hx]))
end T79s
end
section
/-! ===== the class's acts, exactly (printed by program) ===== -/
section T79t
variable {S : aS} {I : Nat → Nat → Int32} {L : Nat → Nat → Int64} {w1 w2 t : Nat} {nd np n fa : Nat} {W : Nat → Int32}
set_option maxRecDepth 100000
theorem a_bud {C : aM} {d k1 k2 j1 j2 pc : Nat} {Q : Option Value → aH → Prop} {X : String → aH → Prop} {ls : List (Option Value)} {st : List Value} {h : aH} (h1 : j1 ≤ k1) (h2 : j2 ≤ k2) (k : AW S C d Q X j1 j2 pc ls st h) : AW S C d Q X k1 k2 pc ls st h := by
  intro p l e s m args below meth c H la locs cells slots mc ms G CC hS hL hR hF g1 g2
  exact k p l e s m args below meth c H la locs cells slots mc ms G CC hS hL hR hF (by omega) (by omega)
theorem le_m1 {n : Nat} (hn : n ≤ 12) {x : Int32} : x ≤ nI n - 1 ↔ x < nI n := by
  rcases n with _ | n
  · rw [Int32.le_iff_toInt_le, Int32.lt_iff_toInt_lt]
    show x.toInt ≤ -1 ↔ x.toInt < 0
    omega
  · rw [nI_dec, Int32.le_iff_toInt_le, Int32.lt_iff_toInt_lt, nI_toInt (by omega), nI_toInt (by omega)]
    omega
theorem inB_t {n : Nat} (hn : n ≤ 12) {x : Int32} (h1 : ¬ x < 0) (h2 : x < nI n) : inB x 0 (nI n - 1) = true := decide_eq_true ⟨Int32.not_lt.mp h1, (le_m1 hn).mpr h2⟩
theorem inB_f1 {y x : Int32} (h1 : x < 0) : inB x 0 y = false := decide_eq_false fun z => absurd h1 (Int32.not_lt.mpr z.1)
theorem inB_f2 {n : Nat} (hn : n ≤ 12) {x : Int32} (h2 : ¬ x < nI n) : inB x 0 (nI n - 1) = false := decide_eq_false fun z => h2 ((le_m1 hn).mp z.2)
theorem f_needDuty (h3 : I 235 3 = nI nd) (hn : nd ≤ 12) {x : Int32} : Sp S m_X11_needDuty 13 1 6 [.ref 200, .int x] (hp I L w1 w2 t) (fun v h' => v = none ∧ inB x 0 (nI nd - 1) = true ∧ h' = hp I L w1 w2 t) (fun E h' => E = exN 0 ∧ inB x 0 (nI nd - 1) = false ∧ h' = hp I L w1 w2 0) := by
  refine Sp_of ok_X11_needDuty rfl rfl ?_
  show AW S m_X11_needDuty 13 _ _ 1 6 0 [some (.ref 200), some (.int x)] [] (hp I L w1 w2 t)
  refine a_l1 rfl rfl rfl ?_
  refine a_if_lt rfl (fun c => ?_) (fun c => ?_)
  · exact a_throw rfl rfl rfl rfl tX11_ioobe rfl rfl rfl rfl rfl ⟨rfl, inB_f1 c, rfl⟩
  · refine a_l1 rfl rfl rfl ?_
    refine a_l0 rfl rfl rfl ?_
    refine a_getq rfl gfX11_37_11 rfl (rfl) ?_
    refine a_getiv (v := nI nd) rfl gfX11_182_5 rfl (h3) ?_
    refine a_ic_lt rfl (fun c2 => ?_) (fun c2 => ?_)
    · exact a_vret rfl rfl ⟨rfl, inB_t hn c c2, rfl⟩
    · exact a_throw rfl rfl rfl rfl tX11_ioobe rfl rfl rfl rfl rfl ⟨rfl, inB_f2 hn c2, rfl⟩
theorem f_needPerson (h3 : I 235 0 = nI np) (hn : np ≤ 12) {x : Int32} : Sp S m_X11_needPerson 13 1 6 [.ref 200, .int x] (hp I L w1 w2 t) (fun v h' => v = none ∧ inB x 0 (nI np - 1) = true ∧ h' = hp I L w1 w2 t) (fun E h' => E = exN 0 ∧ inB x 0 (nI np - 1) = false ∧ h' = hp I L w1 w2 0) := by
  refine Sp_of ok_X11_needPerson rfl rfl ?_
  show AW S m_X11_needPerson 13 _ _ 1 6 0 [some (.ref 200), some (.int x)] [] (hp I L w1 w2 t)
  refine a_l1 rfl rfl rfl ?_
  refine a_if_lt rfl (fun c => ?_) (fun c => ?_)
  · exact a_throw rfl rfl rfl rfl tX11_ioobe rfl rfl rfl rfl rfl ⟨rfl, inB_f1 c, rfl⟩
  · refine a_l1 rfl rfl rfl ?_
    refine a_l0 rfl rfl rfl ?_
    refine a_getq rfl gfX11_37_11 rfl (rfl) ?_
    refine a_getiv (v := nI np) rfl gfX11_179_5 rfl (h3) ?_
    refine a_ic_lt rfl (fun c2 => ?_) (fun c2 => ?_)
    · exact a_vret rfl rfl ⟨rfl, inB_t hn c c2, rfl⟩
    · exact a_throw rfl rfl rfl rfl tX11_ioobe rfl rfl rfl rfl rfl ⟨rfl, inB_f2 hn c2, rfl⟩
theorem f_needTwo {x y : Int32} : Sp S m_X11_needTwo 13 1 6 [.int x, .int y] (hp I L w1 w2 t) (fun v h' => v = none ∧ ¬ x = y ∧ h' = hp I L w1 w2 t) (fun E h' => E = exN 1 ∧ x = y ∧ h' = hp I L w1 w2 0) := by
  refine Sp_of ok_X11_needTwo rfl rfl ?_
  show AW S m_X11_needTwo 13 _ _ 1 6 0 [some (.int x), some (.int y)] [] (hp I L w1 w2 t)
  refine a_l0 rfl rfl rfl ?_
  refine a_l1 rfl rfl rfl ?_
  refine a_ic_ne rfl (fun c => ?_) (fun c => ?_)
  · exact a_vret rfl rfl ⟨rfl, c, rfl⟩
  · exact a_throw rfl rfl rfl rfl tX11_iae rfl rfl rfl rfl rfl ⟨rfl, c, rfl⟩
theorem f_needNumber {x y z : Int32} : Sp S m_X11_needNumber 13 1 6 [.int x, .int y, .int z] (hp I L w1 w2 t) (fun v h' => v = none ∧ inB x y z = true ∧ h' = hp I L w1 w2 t) (fun E h' => E = exN 1 ∧ inB x y z = false ∧ h' = hp I L w1 w2 0) := by
  refine Sp_of ok_X11_needNumber rfl rfl ?_
  show AW S m_X11_needNumber 13 _ _ 1 6 0 [some (.int x), some (.int y), some (.int z)] [] (hp I L w1 w2 t)
  refine a_l0 rfl rfl rfl ?_
  refine a_l1 rfl rfl rfl ?_
  refine a_ic_lt rfl (fun c => ?_) (fun c => ?_)
  · exact a_throw rfl rfl rfl rfl tX11_iae rfl rfl rfl rfl rfl ⟨rfl, decide_eq_false fun q => absurd c (Int32.not_lt.mpr q.1), rfl⟩
  · refine a_l0 rfl rfl rfl ?_
    refine a_l2 rfl rfl rfl ?_
    refine a_ic_le rfl (fun c2 => ?_) (fun c2 => ?_)
    · exact a_vret rfl rfl ⟨rfl, decide_eq_true ⟨Int32.not_lt.mp c, c2⟩, rfl⟩
    · exact a_throw rfl rfl rfl rfl tX11_iae rfl rfl rfl rfl rfl ⟨rfl, decide_eq_false fun q => c2 q.2, rfl⟩
theorem f_needState {i : Nat} (hi : i < 12) {y : Int32} : Sp S m_X11_needState 13 1 6 [.ref 200, .int (nI i), .int y] (hp I L w1 w2 t) (fun v h' => v = none ∧ I 243 i = y ∧ h' = hp I L w1 w2 t) (fun E h' => E = exN 2 ∧ ¬ I 243 i = y ∧ h' = hp I L w1 w2 0) := by
  refine Sp_of ok_X11_needState rfl rfl ?_
  show AW S m_X11_needState 13 _ _ 1 6 0 [some (.ref 200), some (.int (nI i)), some (.int y)] [] (hp I L w1 w2 t)
  refine a_l0 rfl rfl rfl ?_
  refine a_getq rfl gfX11_37_11 rfl (rfl) ?_
  refine a_getq rfl gfX11_159_5 rfl (rfl) ?_
  refine a_l1 rfl rfl rfl ?_
  refine a_eS1 rfl lX11_117 mo_X11_at (sp_X11_at rfl) rfl rfl rfl rfl ?_
  rw [atF_nI hi (by decide)]
  refine a_l2 rfl rfl rfl ?_
  refine a_ic_eq rfl (fun c => ?_) (fun c => ?_)
  · exact a_vret rfl rfl ⟨rfl, c, rfl⟩
  · exact a_throw rfl rfl rfl rfl tX11_ise rfl rfl rfl rfl rfl ⟨rfl, c, rfl⟩
theorem rem12 : ∀ k, k < 24 → nI k - nI k / 12 * 12 = nI (k % 12) := by decide +kernel
theorem f_pastAt {k : Nat} (hk : k < 24) : SpE S m_X11_pastAt 12 [.ref 200, .int (nI k)] (hp I L w1 w2 t) (some (.ref (288 + 11 * (k % 12)))) (hp I L w1 w2 t) := by
  have hm : k % 12 < 12 := Nat.mod_lt _ (by decide)
  refine SpE_of ok_X11_pastAt rfl rfl ?_
  show AW S m_X11_pastAt 12 _ _ 0 0 0 [some (.ref 200), some (.int (nI k)), none] [] (hp I L w1 w2 t)
  refine a_l1 rfl rfl rfl ?_
  refine a_s rfl rfl ?_
  refine a_irem rfl (by decide) ?_
  refine a_top (y := nI (k % 12)) (rem12 k hk) ?_
  refine a_s2 rfl rfl rfl rfl rfl rfl ?_
  refine a_l2 rfl rfl rfl ?_
  refine a_if_lt rfl (fun c => absurd c (nI_pos (by omega))) (fun _ => ?_)
  refine a_l2 rfl rfl rfl ?_
  refine a_l0 rfl rfl rfl ?_
  refine a_getq rfl gfX11_64_11 rfl (rfl) ?_
  refine a_len rfl rfl rfl rfl ?_
  refine a_ic_ge rfl (fun c => absurd c (nI_ge (b := 12) hm (by omega))) (fun _ => ?_)
  refine a_l0 rfl rfl rfl ?_
  refine a_getq rfl gfX11_64_11 rfl (rfl) ?_
  refine a_l2 rfl rfl rfl ?_
  refine a_aald (q := 288 + 11 * (k % 12) + 1) rfl rfl (inI_nI hm (by decide)) (by rw [nI_clamp (by omega)]; exact past_R _ hm) ?_
  refine a_goto rfl ?_
  exact a_aret (q := 288 + 11 * (k % 12) + 1) rfl rfl rfl ⟨rfl, rfl⟩
/-- now is kept as the latest of twelve at most -/
def reS (I : Nat → Nat → Int32) (n fa : Nat) : Nat → Nat → Int32 := if n = 12 then up2 (cpS (up2 (up2 I 200 12 (nI ((fa + 1) % 12))) 200 13 (nI 11)) (288 + 11 * (((fa + 1) % 12 + 11) % 12)) 235 11) 200 13 (nI 12) else up2 (cpS I (288 + 11 * ((fa + n) % 12)) 235 11) 200 13 (nI (n + 1))
theorem f_remember2 {J : Nat → Nat → Int32} {f m : Nat} (h12 : J 200 12 = nI f) (hf : f < 12) (h13 : J 200 13 = nI m) (hm : m < 12) {Q : Option Value → aH → Prop} {X : String → aH → Prop} {u : Option Value} (k : Q none (hp (up2 (cpS J (288 + 11 * ((f + m) % 12)) 235 11) 200 13 (nI (m + 1))) L w1 w2 t)) : AW S m_X11_rememberAct 15 Q X 0 0 32 [some (.ref 200), u] [] (hp J L w1 w2 t) := by
  have hi : (f + m) % 12 < 12 := Nat.mod_lt _ (by decide)
  refine a_l0 rfl rfl rfl ?_
  refine a_l0 rfl rfl rfl ?_
  refine a_getiv (v := nI f) rfl gfX11_368_11 rfl (h12) ?_
  refine a_l0 rfl rfl rfl ?_
  refine a_getiv (v := nI m) rfl gfX11_95_11 rfl (h13) ?_
  refine a_s rfl rfl ?_
  refine a_top (y := nI (f + m)) (nI_addl f m) ?_
  refine a_eV1 rfl lX11_371 mo_X11_pastAt (f_pastAt (k := f + m) (by omega)) rfl rfl rfl ⟨11, _, rfl, rfl, rfl⟩ rfl ?_
  refine a_s1 rfl rfl rfl rfl rfl rfl ?_
  refine a_l1 rfl rfl rfl ?_
  refine a_ifnull_f rfl ?_
  refine a_l1 rfl rfl rfl ?_
  refine a_l0 rfl rfl rfl ?_
  refine a_getq rfl gfX11_37_11 rfl (rfl) ?_
  refine a_eV0 rfl lX11_375 mo_X5_copyAll (sp_X5_copyAll (a := 288 + 11 * ((f + m) % 12)) (b := 235) (past_st _ hi) (by decide) (by omega)) rfl rfl rfl ⟨5, _, kS0 (past_st _ hi), rfl, rfl⟩ rfl ?_
  refine a_l0 rfl rfl rfl ?_
  refine a_s rfl rfl ?_
  refine a_getiv (v := nI m) rfl gfX11_95_11 rfl ((congrFun (cpS_out (by omega)) 13).trans h13) ?_
  refine a_s rfl rfl ?_
  refine a_s rfl rfl ?_
  refine a_top (y := nI (m + 1)) ((nI_succ m).symm) ?_
  refine a_puti rfl pfX11_95_11 rfl ?_
  exact a_vret rfl rfl k
theorem f_remember (h13 : I 200 13 = nI n) (hn : n ≤ 12) (h12 : I 200 12 = nI fa) (hf : fa < 12) : SpE S m_X11_rememberAct 15 [.ref 200] (hp I L w1 w2 t) none (hp (reS I n fa) L w1 w2 t) := by
  refine SpE_of ok_X11_rememberAct rfl rfl ?_
  show AW S m_X11_rememberAct 15 _ _ 0 0 0 [some (.ref 200), none] [] (hp I L w1 w2 t)
  refine a_l0 rfl rfl rfl ?_
  refine a_getiv (v := nI n) rfl gfX11_95_11 rfl (h13) ?_
  refine a_s rfl rfl ?_
  refine a_ic_ne rfl (fun c => ?_) (fun c => ?_)
  · have n12 : ¬ n = 12 := fun z => c (by rw [z]; rfl)
    unfold reS
    rw [if_neg n12]
    exact f_remember2 h12 hf h13 (by omega) ⟨rfl, rfl⟩
  · have n12 : n = 12 := nI_inj (by omega) (by decide) c
    unfold reS
    rw [if_pos n12]
    refine a_l0 rfl rfl rfl ?_
    refine a_l0 rfl rfl rfl ?_
    refine a_getiv (v := nI fa) rfl gfX11_368_11 rfl (h12) ?_
    refine a_s rfl rfl ?_
    refine a_s rfl rfl ?_
    refine a_top (y := nI (fa + 1)) ((nI_succ fa).symm) ?_
    refine a_s rfl rfl ?_
    refine a_irem rfl (by decide) ?_
    refine a_top (y := nI ((fa + 1) % 12)) (rem12 (fa + 1) (by omega)) ?_
    refine a_puti rfl pfX11_368_11 rfl ?_
    refine a_l0 rfl rfl rfl ?_
    refine a_s rfl rfl ?_
    refine a_getiv (v := nI 12) rfl gfX11_95_11 rfl ((up2_ne (Or.inr (by decide))).trans (h13.trans (by rw [n12]))) ?_
    refine a_s rfl rfl ?_
    refine a_s rfl rfl ?_
    refine a_top (y := nI 11) (rfl) ?_
    refine a_puti rfl pfX11_95_11 rfl ?_
    exact f_remember2 (f := (fa + 1) % 12) (m := 11) ((up2_ne (Or.inr (by decide))).trans up2_at) (Nat.mod_lt _ (by decide)) up2_at (by decide) ⟨rfl, rfl⟩
theorem reS_row {q : Nat} (h0 : q ≠ 200) (h1 : q < 288 ∨ 420 ≤ q) : reS I n fa q = I q := by
  have m1 : ((fa + 1) % 12 + 11) % 12 < 12 := Nat.mod_lt _ (by decide)
  have m2 : (fa + n) % 12 < 12 := Nat.mod_lt _ (by decide)
  unfold reS
  by_cases c : n = 12
  · rw [if_pos c, up2_row h0, cpS_out (by omega), up2_row h0, up2_row h0]
  · rw [if_neg c, up2_row h0, cpS_out (by omega)]
def QAc (I : Nat → Nat → Int32) (n fa : Nat) (c v : Int32) (f : (Nat → Nat → Int32) → Nat → Nat → Int32) (L : Nat → Nat → Int64) (w1 w2 t : Nat) : Option Value → aH → Prop := fun v' h' => c = 0 ∧ v' = some (.int v) ∧ h' = hp (f (reS I n fa)) L w1 w2 t
def XAc (I : Nat → Nat → Int32) (c : Int32) (ks : List (Int32 × Nat)) (L : Nat → Nat → Int64) (w1 w2 : Nat) : String → aH → Prop := fun E h' => (∃ x ∈ ks, c = x.1 ∧ E = exN x.2) ∧ h' = hp I L w1 w2 0
theorem QAc.yes {c v x : Int32} {f : (Nat → Nat → Int32) → Nat → Nat → Int32} {J : Nat → Nat → Int32} (hc : c = 0) (hx : x = v) (hJ : J = f (reS I n fa)) : QAc I n fa c v f L w1 w2 t (some (.int x)) (hp J L w1 w2 t) := ⟨hc, by rw [hx], by rw [hJ]⟩
theorem f_put (hD : Sd I 235 W) (hW : WOk W) (h13 : I 200 13 = nI n) (hn : n ≤ 12) (h12 : I 200 12 = nI fa) (hf : fa < 12) {x1 : Int32} : Sp S m_X11_put 16 2 12 [.ref 200, .int x1] (hp I L w1 w2 t) (QAc I n fa (vS (dn W) W 0 x1) (mn 99 (W (23 + 6 * ixN x1 + 2) + 1)) (fun J => up2 J 240 (ixN x1) (mn 99 (W (23 + 6 * ixN x1 + 2) + 1))) L w1 w2 t) (XAc I (vS (dn W) W 0 x1) [(1, 0), (2, 2)] L w1 w2) := by
  have hd3 : I 235 3 = nI (dn W) := (Sd.fd hD (f := 3) (g := 1) (by decide)).trans hW.2.2.2
  have hp0 : I 235 0 = nI (pn W) := (Sd.fd hD (f := 0) (g := 0) (by decide)).trans hW.2.2.1
  have hd12 := hW.2.1
  have hp6 := hW.1
  refine Sp_of ok_X11_put rfl rfl ?_
  show AW S m_X11_put 16 _ _ 2 12 0 [some (.ref 200), some (.int x1)] [] (hp I L w1 w2 t)
  refine a_l0 rfl rfl rfl ?_
  refine a_l1 rfl rfl rfl ?_
  refine a_callV rfl lX11_141 mo_X11_needDuty (f_needDuty hd3 (by omega)) rfl rfl rfl ⟨11, _, rfl, rfl, rfl⟩ rfl (fun v' h' hv => ?_) (fun E h' ex => ?_)
  rotate_left
  · obtain ⟨rfl, hz, rfl⟩ := ex
    exact ⟨⟨_, List.mem_cons_self, (if_neg (by rw [hz]; exact Bool.false_ne_true)), rfl⟩, rfl⟩
  obtain ⟨rfl, hz, rfl⟩ := hv
  obtain ⟨i, hi, rfl⟩ := inB_ix (by omega) hz
  have hx := ixN_nI (i := i) (by omega)
  have e5 : I 243 i = W (23 + 6 * i + 5) := hD.2.2 i (by omega) 5 (by decide)
  refine a_l0 rfl rfl rfl ?_
  refine a_l1 rfl rfl rfl ?_
  refine a_s rfl rfl ?_
  refine a_callV rfl lX11_236 mo_X11_needState (f_needState (i := i) (y := 0) (by omega)) rfl rfl rfl ⟨11, _, rfl, rfl, rfl⟩ rfl (fun v' h' hv => ?_) (fun E h' ex => ?_)
  rotate_left
  · obtain ⟨rfl, hz2, rfl⟩ := ex
    exact ⟨⟨_, (List.mem_cons_of_mem _ List.mem_cons_self), ((if_pos hz).trans (if_neg (by rw [hx, ← e5]; exact hz2))), rfl⟩, rfl⟩
  obtain ⟨rfl, hz2, rfl⟩ := hv
  have vy : vS (dn W) W 0 (nI i) = 0 := (if_pos hz).trans (if_pos (by rw [hx, ← e5]; exact hz2))
  refine a_l0 rfl rfl rfl ?_
  refine a_eV0 rfl lX11_230 mo_X11_rememberAct (f_remember h13 hn h12 hf) rfl rfl rfl ⟨11, _, rfl, rfl, rfl⟩ rfl ?_
  have e2 : reS I n fa 240 i = W (23 + 6 * i + 2) := (congrFun (reS_row (by decide) (by decide)) i).trans (hD.2.2 i (by omega) 2 (by decide))
  refine a_l0 rfl rfl rfl ?_
  refine a_getq rfl gfX11_37_11 rfl (rfl) ?_
  refine a_l1 rfl rfl rfl ?_
  refine a_eV0 rfl lX11_240 mo_X5_growOlder (sp_X5_growOlder (a := 235) (by decide)) rfl rfl rfl ⟨5, _, rfl, rfl, rfl⟩ rfl ?_
  have eg : growF (reS I n fa) 235 (nI i) = up2 (reS I n fa) 240 i (mn 99 (W (23 + 6 * i + 2) + 1)) := by
    unfold growF
    rw [setF_nI (show i < 12 by omega) (by decide), atF_nI (show i < 12 by omega) (by decide), show reS I n fa (235 + 5) i = W (23 + 6 * i + 2) from e2]
    rfl
  rw [eg]
  refine a_l0 rfl rfl rfl ?_
  refine a_getq rfl gfX11_37_11 rfl (rfl) ?_
  refine a_getq rfl gfX11_150_5 rfl (rfl) ?_
  refine a_l1 rfl rfl rfl ?_
  refine a_eS1 rfl lX11_117 mo_X11_at (sp_X11_at rfl) rfl rfl rfl rfl ?_
  exact a_iret rfl rfl (QAc.yes vy (by rw [atF_nI (show i < 12 by omega) (by decide), hx]; exact up2_at) (by rw [hx]))
theorem f_forget (hD : Sd I 235 W) (hW : WOk W) (h13 : I 200 13 = nI n) (hn : n ≤ 12) (h12 : I 200 12 = nI fa) (hf : fa < 12) {x1 : Int32} : Sp S m_X11_forget 16 2 12 [.ref 200, .int x1] (hp I L w1 w2 t) (QAc I n fa (vS (dn W) W 0 x1) (W (23 + 6 * ixN x1 + 1)) (fun J => up2 J 243 (ixN x1) 2) L w1 w2 t) (XAc I (vS (dn W) W 0 x1) [(1, 0), (2, 2)] L w1 w2) := by
  have hd3 : I 235 3 = nI (dn W) := (Sd.fd hD (f := 3) (g := 1) (by decide)).trans hW.2.2.2
  have hp0 : I 235 0 = nI (pn W) := (Sd.fd hD (f := 0) (g := 0) (by decide)).trans hW.2.2.1
  have hd12 := hW.2.1
  have hp6 := hW.1
  refine Sp_of ok_X11_forget rfl rfl ?_
  show AW S m_X11_forget 16 _ _ 2 12 0 [some (.ref 200), some (.int x1)] [] (hp I L w1 w2 t)
  refine a_l0 rfl rfl rfl ?_
  refine a_l1 rfl rfl rfl ?_
  refine a_callV rfl lX11_141 mo_X11_needDuty (f_needDuty hd3 (by omega)) rfl rfl rfl ⟨11, _, rfl, rfl, rfl⟩ rfl (fun v' h' hv => ?_) (fun E h' ex => ?_)
  rotate_left
  · obtain ⟨rfl, hz, rfl⟩ := ex
    exact ⟨⟨_, List.mem_cons_self, (if_neg (by rw [hz]; exact Bool.false_ne_true)), rfl⟩, rfl⟩
  obtain ⟨rfl, hz, rfl⟩ := hv
  obtain ⟨i, hi, rfl⟩ := inB_ix (by omega) hz
  have hx := ixN_nI (i := i) (by omega)
  have e5 : I 243 i = W (23 + 6 * i + 5) := hD.2.2 i (by omega) 5 (by decide)
  refine a_l0 rfl rfl rfl ?_
  refine a_l1 rfl rfl rfl ?_
  refine a_s rfl rfl ?_
  refine a_callV rfl lX11_236 mo_X11_needState (f_needState (i := i) (y := 0) (by omega)) rfl rfl rfl ⟨11, _, rfl, rfl, rfl⟩ rfl (fun v' h' hv => ?_) (fun E h' ex => ?_)
  rotate_left
  · obtain ⟨rfl, hz2, rfl⟩ := ex
    exact ⟨⟨_, (List.mem_cons_of_mem _ List.mem_cons_self), ((if_pos hz).trans (if_neg (by rw [hx, ← e5]; exact hz2))), rfl⟩, rfl⟩
  obtain ⟨rfl, hz2, rfl⟩ := hv
  have vy : vS (dn W) W 0 (nI i) = 0 := (if_pos hz).trans (if_pos (by rw [hx, ← e5]; exact hz2))
  refine a_l0 rfl rfl rfl ?_
  refine a_eV0 rfl lX11_230 mo_X11_rememberAct (f_remember h13 hn h12 hf) rfl rfl rfl ⟨11, _, rfl, rfl, rfl⟩ rfl ?_
  refine a_l0 rfl rfl rfl ?_
  refine a_getq rfl gfX11_37_11 rfl (rfl) ?_
  refine a_getq rfl gfX11_159_5 rfl (rfl) ?_
  refine a_l1 rfl rfl rfl ?_
  refine a_s rfl rfl ?_
  refine a_eS0 rfl lX11_243 mo_X11_setAt (sp_X11_setAt rfl) rfl rfl rfl rfl ?_
  rw [setF_nI (show i < 12 by omega) (by decide)]
  refine a_l0 rfl rfl rfl ?_
  refine a_getq rfl gfX11_37_11 rfl (rfl) ?_
  refine a_getq rfl gfX11_147_5 rfl (rfl) ?_
  refine a_l1 rfl rfl rfl ?_
  refine a_eS1 rfl lX11_117 mo_X11_at (sp_X11_at rfl) rfl rfl rfl rfl ?_
  exact a_iret rfl rfl (QAc.yes vy (by rw [atF_nI (show i < 12 by omega) (by decide), hx, up2_row (by decide), reS_row (by decide) (by decide)]; exact hD.2.2 i (by omega) 1 (by decide)) (by rw [hx]))
theorem f_recall (hD : Sd I 235 W) (hW : WOk W) (h13 : I 200 13 = nI n) (hn : n ≤ 12) (h12 : I 200 12 = nI fa) (hf : fa < 12) {x1 : Int32} : Sp S m_X11_recall 16 2 12 [.ref 200, .int x1] (hp I L w1 w2 t) (QAc I n fa (vS (dn W) W 2 x1) (W (23 + 6 * ixN x1 + 2)) (fun J => up2 J 243 (ixN x1) 0) L w1 w2 t) (XAc I (vS (dn W) W 2 x1) [(1, 0), (2, 2)] L w1 w2) := by
  have hd3 : I 235 3 = nI (dn W) := (Sd.fd hD (f := 3) (g := 1) (by decide)).trans hW.2.2.2
  have hp0 : I 235 0 = nI (pn W) := (Sd.fd hD (f := 0) (g := 0) (by decide)).trans hW.2.2.1
  have hd12 := hW.2.1
  have hp6 := hW.1
  refine Sp_of ok_X11_recall rfl rfl ?_
  show AW S m_X11_recall 16 _ _ 2 12 0 [some (.ref 200), some (.int x1)] [] (hp I L w1 w2 t)
  refine a_l0 rfl rfl rfl ?_
  refine a_l1 rfl rfl rfl ?_
  refine a_callV rfl lX11_141 mo_X11_needDuty (f_needDuty hd3 (by omega)) rfl rfl rfl ⟨11, _, rfl, rfl, rfl⟩ rfl (fun v' h' hv => ?_) (fun E h' ex => ?_)
  rotate_left
  · obtain ⟨rfl, hz, rfl⟩ := ex
    exact ⟨⟨_, List.mem_cons_self, (if_neg (by rw [hz]; exact Bool.false_ne_true)), rfl⟩, rfl⟩
  obtain ⟨rfl, hz, rfl⟩ := hv
  obtain ⟨i, hi, rfl⟩ := inB_ix (by omega) hz
  have hx := ixN_nI (i := i) (by omega)
  have e5 : I 243 i = W (23 + 6 * i + 5) := hD.2.2 i (by omega) 5 (by decide)
  refine a_l0 rfl rfl rfl ?_
  refine a_l1 rfl rfl rfl ?_
  refine a_s rfl rfl ?_
  refine a_callV rfl lX11_236 mo_X11_needState (f_needState (i := i) (y := 2) (by omega)) rfl rfl rfl ⟨11, _, rfl, rfl, rfl⟩ rfl (fun v' h' hv => ?_) (fun E h' ex => ?_)
  rotate_left
  · obtain ⟨rfl, hz2, rfl⟩ := ex
    exact ⟨⟨_, (List.mem_cons_of_mem _ List.mem_cons_self), ((if_pos hz).trans (if_neg (by rw [hx, ← e5]; exact hz2))), rfl⟩, rfl⟩
  obtain ⟨rfl, hz2, rfl⟩ := hv
  have vy : vS (dn W) W 2 (nI i) = 0 := (if_pos hz).trans (if_pos (by rw [hx, ← e5]; exact hz2))
  refine a_l0 rfl rfl rfl ?_
  refine a_eV0 rfl lX11_230 mo_X11_rememberAct (f_remember h13 hn h12 hf) rfl rfl rfl ⟨11, _, rfl, rfl, rfl⟩ rfl ?_
  refine a_l0 rfl rfl rfl ?_
  refine a_getq rfl gfX11_37_11 rfl (rfl) ?_
  refine a_getq rfl gfX11_159_5 rfl (rfl) ?_
  refine a_l1 rfl rfl rfl ?_
  refine a_s rfl rfl ?_
  refine a_eS0 rfl lX11_243 mo_X11_setAt (sp_X11_setAt rfl) rfl rfl rfl rfl ?_
  rw [setF_nI (show i < 12 by omega) (by decide)]
  refine a_l0 rfl rfl rfl ?_
  refine a_getq rfl gfX11_37_11 rfl (rfl) ?_
  refine a_getq rfl gfX11_150_5 rfl (rfl) ?_
  refine a_l1 rfl rfl rfl ?_
  refine a_eS1 rfl lX11_117 mo_X11_at (sp_X11_at rfl) rfl rfl rfl rfl ?_
  exact a_iret rfl rfl (QAc.yes vy (by rw [atF_nI (show i < 12 by omega) (by decide), hx, up2_row (by decide), reS_row (by decide) (by decide)]; exact hD.2.2 i (by omega) 2 (by decide)) (by rw [hx]))
theorem f_hand (hD : Sd I 235 W) (hW : WOk W) (h13 : I 200 13 = nI n) (hn : n ≤ 12) (h12 : I 200 12 = nI fa) (hf : fa < 12) {x1 x2 : Int32} : Sp S m_X11_hand 16 4 24 [.ref 200, .int x1, .int x2] (hp I L w1 w2 t) (QAc I n fa (vH (dn W) (pn W) W x1 x2) (W (23 + 6 * ixN x1 + 0)) (fun J => up2 J 238 (ixN x1) x2) L w1 w2 t) (XAc I (vH (dn W) (pn W) W x1 x2) [(1, 0), (2, 1), (3, 2)] L w1 w2) := by
  have hd3 : I 235 3 = nI (dn W) := (Sd.fd hD (f := 3) (g := 1) (by decide)).trans hW.2.2.2
  have hp0 : I 235 0 = nI (pn W) := (Sd.fd hD (f := 0) (g := 0) (by decide)).trans hW.2.2.1
  have hd12 := hW.2.1
  have hp6 := hW.1
  refine Sp_of ok_X11_hand rfl rfl ?_
  show AW S m_X11_hand 16 _ _ 4 24 0 [some (.ref 200), some (.int x1), some (.int x2), none] [] (hp I L w1 w2 t)
  refine a_l0 rfl rfl rfl ?_
  refine a_l1 rfl rfl rfl ?_
  refine a_callV rfl lX11_141 mo_X11_needDuty (f_needDuty hd3 (by omega)) rfl rfl rfl ⟨11, _, rfl, rfl, rfl⟩ rfl (fun v' h' hv => ?_) (fun E h' ex => ?_)
  rotate_left
  · obtain ⟨rfl, hz, rfl⟩ := ex
    exact ⟨⟨_, List.mem_cons_self, (if_neg (fun z => by rw [hz] at z; exact Bool.false_ne_true z.1)), rfl⟩, rfl⟩
  obtain ⟨rfl, hz, rfl⟩ := hv
  obtain ⟨i, hi, rfl⟩ := inB_ix (by omega) hz
  have hx := ixN_nI (i := i) (by omega)
  have e0 : I 238 i = W (23 + 6 * i + 0) := hD.2.2 i (by omega) 0 (by decide)
  have e5 : I 243 i = W (23 + 6 * i + 5) := hD.2.2 i (by omega) 5 (by decide)
  refine a_l0 rfl rfl rfl ?_
  refine a_l2 rfl rfl rfl ?_
  refine a_callV rfl lX11_110 mo_X11_needPerson (f_needPerson hp0 (by omega)) rfl rfl rfl ⟨11, _, rfl, rfl, rfl⟩ rfl (fun v' h' hv => ?_) (fun E h' ex => ?_)
  rotate_left
  · obtain ⟨rfl, hz2, rfl⟩ := ex
    exact ⟨⟨_, List.mem_cons_self, (if_neg (fun z => by rw [hz2] at z; exact Bool.false_ne_true z.2)), rfl⟩, rfl⟩
  obtain ⟨rfl, hz2, rfl⟩ := hv
  refine a_l0 rfl rfl rfl ?_
  refine a_getq rfl gfX11_37_11 rfl (rfl) ?_
  refine a_getq rfl gfX11_144_5 rfl (rfl) ?_
  refine a_l1 rfl rfl rfl ?_
  refine a_eS1 rfl lX11_117 mo_X11_at (sp_X11_at rfl) rfl rfl rfl rfl ?_
  refine a_top (y := W (23 + 6 * i + 0)) ((atF_nI (show i < 12 by omega) (by decide)).trans e0) ?_
  refine a_s3 rfl rfl rfl rfl rfl rfl ?_
  refine a_l3 rfl rfl rfl ?_
  refine a_l2 rfl rfl rfl ?_
  refine a_callS rfl lX11_247 mo_X11_needTwo (f_needTwo) rfl rfl rfl rfl (fun v' h' hv => ?_) (fun E h' ex => ?_)
  rotate_left
  · obtain ⟨rfl, hz3, rfl⟩ := ex
    exact ⟨⟨_, (List.mem_cons_of_mem _ List.mem_cons_self), ((if_pos ⟨hz, hz2⟩).trans (if_pos (by rw [hx]; exact hz3))), rfl⟩, rfl⟩
  obtain ⟨rfl, hz3, rfl⟩ := hv
  refine a_l0 rfl rfl rfl ?_
  refine a_getq rfl gfX11_37_11 rfl (rfl) ?_
  refine a_getq rfl gfX11_159_5 rfl (rfl) ?_
  refine a_l1 rfl rfl rfl ?_
  refine a_eS1 rfl lX11_117 mo_X11_at (sp_X11_at rfl) rfl rfl rfl rfl ?_
  refine a_top (y := W (23 + 6 * i + 5)) ((atF_nI (show i < 12 by omega) (by decide)).trans e5) ?_
  refine a_s rfl rfl ?_
  refine a_ic_ne rfl (fun c => ?_) (fun c => ?_)
  rotate_left
  · exact a_throw rfl rfl rfl rfl tX11_ise rfl rfl rfl rfl rfl ⟨⟨_, (List.mem_cons_of_mem _ (List.mem_cons_of_mem _ List.mem_cons_self)), (if_pos ⟨hz, hz2⟩).trans ((if_neg (by rw [hx]; exact hz3)).trans (if_pos (by rw [hx]; exact c))), rfl⟩, rfl⟩
  refine a_l0 rfl rfl rfl ?_
  refine a_eV0 rfl lX11_230 mo_X11_rememberAct (f_remember h13 hn h12 hf) rfl rfl rfl ⟨11, _, rfl, rfl, rfl⟩ rfl ?_
  refine a_l0 rfl rfl rfl ?_
  refine a_getq rfl gfX11_37_11 rfl (rfl) ?_
  refine a_getq rfl gfX11_144_5 rfl (rfl) ?_
  refine a_l1 rfl rfl rfl ?_
  refine a_l2 rfl rfl rfl ?_
  refine a_eS0 rfl lX11_243 mo_X11_setAt (sp_X11_setAt rfl) rfl rfl rfl rfl ?_
  rw [setF_nI (show i < 12 by omega) (by decide)]
  refine a_l3 rfl rfl rfl ?_
  exact a_iret rfl rfl (QAc.yes ((if_pos ⟨hz, hz2⟩).trans ((if_neg (by rw [hx]; exact hz3)).trans (if_neg (by rw [hx]; exact c)))) (by rw [hx]) (by rw [hx]))
theorem f_lean (hD : Sd I 235 W) (hW : WOk W) (h13 : I 200 13 = nI n) (hn : n ≤ 12) (h12 : I 200 12 = nI fa) (hf : fa < 12) {x1 x2 : Int32} : Sp S m_X11_lean 16 3 18 [.ref 200, .int x1, .int x2] (hp I L w1 w2 t) (QAc I n fa (vL (dn W) x1 x2) (W (23 + 6 * ixN x1 + 4)) (fun J => up2 J 242 (ixN x1) x2) L w1 w2 t) (XAc I (vL (dn W) x1 x2) [(1, 0), (2, 1)] L w1 w2) := by
  have hd3 : I 235 3 = nI (dn W) := (Sd.fd hD (f := 3) (g := 1) (by decide)).trans hW.2.2.2
  have hp0 : I 235 0 = nI (pn W) := (Sd.fd hD (f := 0) (g := 0) (by decide)).trans hW.2.2.1
  have hd12 := hW.2.1
  have hp6 := hW.1
  refine Sp_of ok_X11_lean rfl rfl ?_
  show AW S m_X11_lean 16 _ _ 3 18 0 [some (.ref 200), some (.int x1), some (.int x2), none] [] (hp I L w1 w2 t)
  refine a_l0 rfl rfl rfl ?_
  refine a_l1 rfl rfl rfl ?_
  refine a_callV rfl lX11_141 mo_X11_needDuty (f_needDuty hd3 (by omega)) rfl rfl rfl ⟨11, _, rfl, rfl, rfl⟩ rfl (fun v' h' hv => ?_) (fun E h' ex => ?_)
  rotate_left
  · obtain ⟨rfl, hz, rfl⟩ := ex
    exact ⟨⟨_, List.mem_cons_self, (if_neg (fun z => by rw [hz] at z; exact Bool.false_ne_true z.1)), rfl⟩, rfl⟩
  obtain ⟨rfl, hz, rfl⟩ := hv
  obtain ⟨i, hi, rfl⟩ := inB_ix (by omega) hz
  have hx := ixN_nI (i := i) (by omega)
  have e4 : I 242 i = W (23 + 6 * i + 4) := hD.2.2 i (by omega) 4 (by decide)
  have k15 : (x2 = -1 ∨ inB x2 0 (nI (dn W) - 1) = true) → AW S m_X11_lean 16 (QAc I n fa (vL (dn W) (nI i) x2) (W (23 + 6 * ixN (nI i) + 4)) (fun J => up2 J 242 (ixN (nI i)) x2) L w1 w2 t) (XAc I (vL (dn W) (nI i) x2) [(1, 0), (2, 1)] L w1 w2) 1 6 15 [some (.ref 200), some (.int (nI i)), some (.int x2), none] [] (hp I L w1 w2 t) := by
    intro hy
    refine a_l1 rfl rfl rfl ?_
    refine a_l2 rfl rfl rfl ?_
    refine a_callS rfl lX11_247 mo_X11_needTwo (f_needTwo) rfl rfl rfl rfl (fun v' h' hv => ?_) (fun E h' ex => ?_)
    rotate_left
    · obtain ⟨rfl, hz3, rfl⟩ := ex
      exact ⟨⟨_, (List.mem_cons_of_mem _ List.mem_cons_self), (if_pos ⟨hz, hy⟩).trans (if_pos hz3), rfl⟩, rfl⟩
    obtain ⟨rfl, hz3, rfl⟩ := hv
    refine a_l0 rfl rfl rfl ?_
    refine a_getq rfl gfX11_37_11 rfl (rfl) ?_
    refine a_getq rfl gfX11_156_5 rfl (rfl) ?_
    refine a_l1 rfl rfl rfl ?_
    refine a_eS1 rfl lX11_117 mo_X11_at (sp_X11_at rfl) rfl rfl rfl rfl ?_
    refine a_top (y := W (23 + 6 * i + 4)) ((atF_nI (show i < 12 by omega) (by decide)).trans e4) ?_
    refine a_s3 rfl rfl rfl rfl rfl rfl ?_
    refine a_l0 rfl rfl rfl ?_
    refine a_eV0 rfl lX11_230 mo_X11_rememberAct (f_remember h13 hn h12 hf) rfl rfl rfl ⟨11, _, rfl, rfl, rfl⟩ rfl ?_
    refine a_l0 rfl rfl rfl ?_
    refine a_getq rfl gfX11_37_11 rfl (rfl) ?_
    refine a_getq rfl gfX11_156_5 rfl (rfl) ?_
    refine a_l1 rfl rfl rfl ?_
    refine a_l2 rfl rfl rfl ?_
    refine a_eS0 rfl lX11_243 mo_X11_setAt (sp_X11_setAt rfl) rfl rfl rfl rfl ?_
    rw [setF_nI (show i < 12 by omega) (by decide)]
    refine a_l3 rfl rfl rfl ?_
    exact a_iret rfl rfl (QAc.yes ((if_pos ⟨hz, hy⟩).trans (if_neg hz3)) (by rw [hx]) (by rw [hx]))
  refine a_l2 rfl rfl rfl ?_
  refine a_s rfl rfl ?_
  refine a_ic_eq rfl (fun c => ?_) (fun c => ?_)
  · exact a_bud (by decide) (by decide) (k15 (Or.inl c))
  refine a_l0 rfl rfl rfl ?_
  refine a_l2 rfl rfl rfl ?_
  refine a_callV rfl lX11_141 mo_X11_needDuty (f_needDuty hd3 (by omega)) rfl rfl rfl ⟨11, _, rfl, rfl, rfl⟩ rfl (fun v' h' hv => ?_) (fun E h' ex => ?_)
  rotate_left
  · obtain ⟨rfl, hz2, rfl⟩ := ex
    exact ⟨⟨_, List.mem_cons_self, (if_neg (fun z => z.2.elim c (fun y => by rw [hz2] at y; exact Bool.false_ne_true y))), rfl⟩, rfl⟩
  obtain ⟨rfl, hz2, rfl⟩ := hv
  exact k15 (Or.inr hz2)
theorem f_free (hD : Sd I 235 W) (hW : WOk W) (h13 : I 200 13 = nI n) (hn : n ≤ 12) (h12 : I 200 12 = nI fa) (hf : fa < 12) {x1 x2 : Int32} : Sp S m_X11_free 16 2 12 [.ref 200, .int x1, .int x2] (hp I L w1 w2 t) (QAc I n fa (vF (pn W) x1 x2) (W (11 + 2 * ixN x1 + 1)) (fun J => up2 J 237 (ixN x1) x2) L w1 w2 t) (XAc I (vF (pn W) x1 x2) [(1, 0), (2, 1)] L w1 w2) := by
  have hd3 : I 235 3 = nI (dn W) := (Sd.fd hD (f := 3) (g := 1) (by decide)).trans hW.2.2.2
  have hp0 : I 235 0 = nI (pn W) := (Sd.fd hD (f := 0) (g := 0) (by decide)).trans hW.2.2.1
  have hd12 := hW.2.1
  have hp6 := hW.1
  refine Sp_of ok_X11_free rfl rfl ?_
  show AW S m_X11_free 16 _ _ 2 12 0 [some (.ref 200), some (.int x1), some (.int x2), none] [] (hp I L w1 w2 t)
  refine a_l0 rfl rfl rfl ?_
  refine a_l1 rfl rfl rfl ?_
  refine a_callV rfl lX11_110 mo_X11_needPerson (f_needPerson hp0 (by omega)) rfl rfl rfl ⟨11, _, rfl, rfl, rfl⟩ rfl (fun v' h' hv => ?_) (fun E h' ex => ?_)
  rotate_left
  · obtain ⟨rfl, hz, rfl⟩ := ex
    exact ⟨⟨_, List.mem_cons_self, (if_neg (by rw [hz]; exact Bool.false_ne_true)), rfl⟩, rfl⟩
  obtain ⟨rfl, hz, rfl⟩ := hv
  obtain ⟨i, hi, rfl⟩ := inB_ix (by omega) hz
  have hx := ixN_nI (i := i) (by omega)
  refine a_l2 rfl rfl rfl ?_
  refine a_s rfl rfl ?_
  refine a_s rfl rfl ?_
  refine a_callS rfl lX11_250 mo_X11_needNumber (f_needNumber) rfl rfl rfl rfl (fun v' h' hv => ?_) (fun E h' ex => ?_)
  rotate_left
  · obtain ⟨rfl, hz2, rfl⟩ := ex
    exact ⟨⟨_, (List.mem_cons_of_mem _ List.mem_cons_self), ((if_pos hz).trans (if_neg (by rw [hz2]; exact Bool.false_ne_true))), rfl⟩, rfl⟩
  obtain ⟨rfl, hz2, rfl⟩ := hv
  refine a_l0 rfl rfl rfl ?_
  refine a_getq rfl gfX11_37_11 rfl (rfl) ?_
  refine a_getq rfl gfX11_121_5 rfl (rfl) ?_
  refine a_l1 rfl rfl rfl ?_
  refine a_eS1 rfl lX11_117 mo_X11_at (sp_X11_at rfl) rfl rfl rfl rfl ?_
  refine a_top (y := W (11 + 2 * i + 1)) ((atF_nI (show i < 6 by omega) (by decide)).trans (hD.2.1 i (by omega)).2) ?_
  refine a_s3 rfl rfl rfl rfl rfl rfl ?_
  refine a_l0 rfl rfl rfl ?_
  refine a_eV0 rfl lX11_230 mo_X11_rememberAct (f_remember h13 hn h12 hf) rfl rfl rfl ⟨11, _, rfl, rfl, rfl⟩ rfl ?_
  refine a_l0 rfl rfl rfl ?_
  refine a_getq rfl gfX11_37_11 rfl (rfl) ?_
  refine a_getq rfl gfX11_121_5 rfl (rfl) ?_
  refine a_l1 rfl rfl rfl ?_
  refine a_l2 rfl rfl rfl ?_
  refine a_eS0 rfl lX11_243 mo_X11_setAt (sp_X11_setAt rfl) rfl rfl rfl rfl ?_
  rw [setF_nI (show i < 6 by omega) (by decide)]
  refine a_l3 rfl rfl rfl ?_
  exact a_iret rfl rfl (QAc.yes ((if_pos hz).trans (if_pos hz2)) (by rw [hx]) (by rw [hx]))
end T79t
end
section
/-! ===== undo, the image, the seed: exactly, on both sides ===== -/
section T79u
variable {S : aS} {I : Nat → Nat → Int32} {L : Nat → Nat → Int64} {w1 w2 t : Nat} {n fa r : Nat}
set_option maxRecDepth 100000
def unH (I : Nat → Nat → Int32) (r : Nat) : Nat → Nat → Int32 := if r = 0 then up2 I 420 0 0 else cpR (up2 (up2 I 420 0 0) 420 7 (nI (r - 1))) 421 0 425 (335 * (r - 1)) 335
theorem h_undo (er : I 420 7 = nI r) (hr12 : r ≤ 12) : SpE S m_X12_undo 12 [.ref 420] (hp I L w1 w2 t) (some (.int (bI (decide (¬ r = 0))))) (hp (unH I r) L w1 w2 t) := by
  refine SpE_of ok_X12_undo rfl rfl ?_
  show AW S m_X12_undo 12 _ _ 0 0 0 [some (.ref 420), none] [] (hp I L w1 w2 t)
  refine a_l0 rfl rfl rfl ?_
  refine a_s rfl rfl ?_
  refine a_puti rfl pfX12_3_12 rfl ?_
  refine a_l0 rfl rfl rfl ?_
  refine a_geti rfl gfX12_53_12 rfl ?_
  refine a_top (y := nI r) ((up2_ne (Or.inr (by decide))).trans er) ?_
  refine a_if_ne rfl (fun c => ?_) (fun c => ?_)
  · rcases r with _ | m
    · exact absurd rfl c
    · refine a_l0 rfl rfl rfl ?_
      refine a_s rfl rfl ?_
      refine a_geti rfl gfX12_53_12 rfl ?_
      refine a_top (y := nI (m + 1)) ((up2_ne (Or.inr (by decide))).trans er) ?_
      refine a_s rfl rfl ?_
      refine a_s rfl rfl ?_
      refine a_top (y := nI m) (nI_dec m) ?_
      refine a_puti rfl pfX12_53_12 rfl ?_
      refine a_s rfl rfl ?_
      refine a_s1 rfl rfl rfl rfl rfl rfl ?_
      refine a_forE (n := 335) (fun j => [some (.ref 420), some (.int (nI j))]) (fun j => hp (cpR (up2 (up2 I 420 0 0) 420 7 (nI m)) 421 0 425 (335 * m) j) L w1 w2 t) (by simp [lsub, nI_0]) (by rw [cpR_0]) ?_ (fun j hj ih => ?_)
      · refine a_l1 rfl rfl rfl ?_
        refine a_s rfl rfl ?_
        refine a_ic_ge rfl (fun _ => ?_) (fun c => absurd (Int32.le_refl _) c)
        refine a_s rfl rfl ?_
        exact a_zret rfl rfl rfl ⟨by rw [decide_eq_true (Nat.succ_ne_zero m)]; rfl, by unfold unH; rw [if_neg (Nat.succ_ne_zero m)]; rfl⟩
      · refine a_l1 rfl rfl rfl ?_
        refine a_s rfl rfl ?_
        refine a_ic_ge rfl (fun c => absurd c (nI_ge (b := 335) hj (by omega))) (fun _ => ?_)
        refine a_l0 rfl rfl rfl ?_
        refine a_getq rfl gfX12_13_12 rfl (rfl) ?_
        refine a_l1 rfl rfl rfl ?_
        refine a_l0 rfl rfl rfl ?_
        refine a_getq rfl gfX12_26_12 rfl (rfl) ?_
        refine a_s rfl rfl ?_
        refine a_l0 rfl rfl rfl ?_
        refine a_geti rfl gfX12_53_12 rfl ?_
        refine a_top (y := nI m) ((congrFun (cpR_row (by decide)) 7).trans up2_at) ?_
        refine a_s rfl rfl ?_
        refine a_top (y := nI (335 * m)) (nI_mul 335 m) ?_
        refine a_l1 rfl rfl rfl ?_
        refine a_s rfl rfl ?_
        refine a_top (y := nI (335 * m + j)) (nI_addl _ _) ?_
        refine a_ialdv (v := up2 (up2 I 420 0 0) 420 7 (nI m) 425 (j + 335 * m)) rfl (n := 4020) rfl (inI_nI (by omega) (by omega)) (by rw [nI_clamp (by omega), cpR_row (by decide), Nat.add_comm j (335 * m)]) ?_
        refine a_iastv (k := 0 + j) rfl (n := 2033) rfl (inI_nI (by omega) (by omega)) (by rw [nI_clamp (by omega)]; omega) ?_
        rw [cpR_succ]
        refine a_i1 rfl rfl rfl ?_
        refine a_goto rfl ?_
        exact a_back ih (by simp [lsub, nI_1]) rfl
  · have r0 : r = 0 := (nI_eq0 (by omega)).mp c
    refine a_s rfl rfl ?_
    exact a_zret rfl rfl rfl ⟨by rw [r0]; rfl, by unfold unH; rw [if_pos r0]⟩
theorem h_back : SpE S m_X12_back 12 [.ref 420] (hp I L w1 w2 t) (some (.int (bI (decide (¬ I 420 6 = 0))))) (hp (if I 420 6 = 0 then up2 I 420 0 0 else bkH I) L w1 w2 t) := by
  refine SpE_of ok_X12_back rfl rfl ?_
  show AW S m_X12_back 12 _ _ 0 0 0 [some (.ref 420), none] [] (hp I L w1 w2 t)
  refine a_l0 rfl rfl rfl ?_
  refine a_s rfl rfl ?_
  refine a_puti rfl pfX12_3_12 rfl ?_
  refine a_l0 rfl rfl rfl ?_
  refine a_geti rfl gfX12_49_12 rfl ?_
  refine a_top (y := I 420 6) (up2_ne (Or.inr (by decide))) ?_
  refine a_if_ne rfl (fun c => ?_) (fun c => ?_)
  · rw [if_neg c]
    refine a_s rfl rfl ?_
    refine a_s1 rfl rfl rfl rfl rfl rfl ?_
    refine a_forE (n := 1184) (fun j => [some (.ref 420), some (.int (nI j))]) (fun j => hp (cpR (up2 I 420 0 0) 421 0 422 0 j) L w1 w2 t) (by simp [lsub, nI_0]) (by rw [cpR_0]) ?_ (fun j hj ih => ?_)
    · refine a_l1 rfl rfl rfl ?_
      refine a_s rfl rfl ?_
      refine a_ic_ge rfl (fun _ => ?_) (fun c => absurd (Int32.le_refl _) c)
      refine a_l0 rfl rfl rfl ?_
      refine a_s rfl rfl ?_
      refine a_puti rfl pfX12_53_12 rfl ?_
      refine a_s rfl rfl ?_
      exact a_zret rfl rfl rfl ⟨by rw [decide_eq_true c]; rfl, rfl⟩
    · refine a_l1 rfl rfl rfl ?_
      refine a_s rfl rfl ?_
      refine a_ic_ge rfl (fun c => absurd c (nI_ge (b := 1184) hj (by omega))) (fun _ => ?_)
      refine a_l0 rfl rfl rfl ?_
      refine a_getq rfl gfX12_13_12 rfl (rfl) ?_
      refine a_l1 rfl rfl rfl ?_
      refine a_l0 rfl rfl rfl ?_
      refine a_getq rfl gfX12_17_12 rfl (rfl) ?_
      refine a_l1 rfl rfl rfl ?_
      refine a_ialdv (v := (up2 I 420 0 0) 422 (j + 0)) rfl (n := 1184) rfl (inI_nI (by omega) (by omega)) (by rw [nI_clamp (by omega), cpR_row (by decide)]; rfl) ?_
      refine a_iastv (k := 0 + j) rfl (n := 2033) rfl (inI_nI (by omega) (by omega)) (by rw [nI_clamp (by omega)]; omega) ?_
      rw [cpR_succ]
      refine a_i1 rfl rfl rfl ?_
      refine a_goto rfl ?_
      exact a_back ih (by simp [lsub, nI_1]) rfl
  · rw [if_pos c]
    refine a_s rfl rfl ?_
    exact a_zret rfl rfl rfl ⟨by rw [decide_eq_false (fun z => z c)]; rfl, rfl⟩
theorem h_seed {x : Int32} : SpE S m_X12_seed 12 [.ref 420, .int x] (hp I L w1 w2 t) (some (.int (I 421 10))) (hp (up2 (up2 I 420 0 0) 421 10 x) L w1 w2 t) := by
  refine SpE_of ok_X12_seed rfl rfl ?_
  show AW S m_X12_seed 12 _ _ 0 0 0 [some (.ref 420), some (.int x), none] [] (hp I L w1 w2 t)
  refine a_l0 rfl rfl rfl ?_
  refine a_s rfl rfl ?_
  refine a_puti rfl pfX12_3_12 rfl ?_
  refine a_l0 rfl rfl rfl ?_
  refine a_getq rfl gfX12_13_12 rfl (rfl) ?_
  refine a_s rfl rfl ?_
  refine a_ialdv (v := I 421 10) rfl (n := 2033) rfl ⟨by decide, by decide⟩ (congrFun (up2_row (by decide)) 10) ?_
  refine a_s2 rfl rfl rfl rfl rfl rfl ?_
  refine a_l0 rfl rfl rfl ?_
  refine a_getq rfl gfX12_13_12 rfl (rfl) ?_
  refine a_s rfl rfl ?_
  refine a_l1 rfl rfl rfl ?_
  refine a_iastv (k := 10) rfl (n := 2033) rfl ⟨by decide, by decide⟩ rfl ?_
  refine a_l2 rfl rfl rfl ?_
  exact a_iret rfl rfl ⟨rfl, rfl⟩
def unS (I : Nat → Nat → Int32) (n fa : Nat) : Nat → Nat → Int32 := if n = 0 then I else cpS (up2 I 200 13 (nI (n - 1))) 235 (288 + 11 * ((fa + (n - 1)) % 12)) 11
theorem f_undo (h13 : I 200 13 = nI n) (hn : n ≤ 12) (h12 : I 200 12 = nI fa) (hf : fa < 12) : SpE S m_X11_undo 15 [.ref 200] (hp I L w1 w2 t) (some (.int (bI (decide (¬ n = 0))))) (hp (unS I n fa) L w1 w2 t) := by
  refine SpE_of ok_X11_undo rfl rfl ?_
  show AW S m_X11_undo 15 _ _ 0 0 0 [some (.ref 200), none] [] (hp I L w1 w2 t)
  refine a_l0 rfl rfl rfl ?_
  refine a_getiv (v := nI n) rfl gfX11_95_11 rfl (h13) ?_
  refine a_s rfl rfl ?_
  rcases n with _ | m
  · refine a_ic_ge rfl (fun c => absurd c (by decide)) (fun _ => ?_)
    refine a_s rfl rfl ?_
    exact a_zret rfl rfl rfl ⟨rfl, rfl⟩
  · have hi : (fa + m) % 12 < 12 := Nat.mod_lt _ (by decide)
    refine a_ic_ge rfl (fun _ => ?_) (fun c => absurd (nI_leu (n := 1) (j := m + 1) (by omega) (by omega)) c)
    refine a_l0 rfl rfl rfl ?_
    refine a_s rfl rfl ?_
    refine a_getiv (v := nI (m + 1)) rfl gfX11_95_11 rfl (h13) ?_
    refine a_s rfl rfl ?_
    refine a_s rfl rfl ?_
    refine a_top (y := nI m) (nI_dec m) ?_
    refine a_puti rfl pfX11_95_11 rfl ?_
    refine a_l0 rfl rfl rfl ?_
    refine a_l0 rfl rfl rfl ?_
    refine a_getiv (v := nI fa) rfl gfX11_368_11 rfl ((up2_ne (Or.inr (by decide))).trans h12) ?_
    refine a_l0 rfl rfl rfl ?_
    refine a_getiv (v := nI m) rfl gfX11_95_11 rfl (up2_at) ?_
    refine a_s rfl rfl ?_
    refine a_top (y := nI (fa + m)) (nI_addl fa m) ?_
    refine a_eV1 rfl lX11_371 mo_X11_pastAt (f_pastAt (k := fa + m) (by omega)) rfl rfl rfl ⟨11, _, rfl, rfl, rfl⟩ rfl ?_
    refine a_s1 rfl rfl rfl rfl rfl rfl ?_
    refine a_l1 rfl rfl rfl ?_
    refine a_ifnull_f rfl ?_
    refine a_l0 rfl rfl rfl ?_
    refine a_getq rfl gfX11_37_11 rfl (rfl) ?_
    refine a_l1 rfl rfl rfl ?_
    refine a_eV0 rfl lX11_375 mo_X5_copyAll (sp_X5_copyAll (a := 235) (b := 288 + 11 * ((fa + m) % 12)) (by decide) (past_st _ hi) (by omega)) rfl rfl rfl ⟨5, _, rfl, rfl, rfl⟩ rfl ?_
    refine a_s rfl rfl ?_
    exact a_zret rfl rfl rfl ⟨by rw [decide_eq_true (Nat.succ_ne_zero m)]; rfl, by unfold unS; rw [if_neg (Nat.succ_ne_zero m)]; rfl⟩
def bkS (I : Nat → Nat → Int32) : Nat → Nat → Int32 := up2 (cpL (cpS I 235 268 11) 246 279) 200 13 0
theorem f_back : SpE S m_X11_back 15 [.ref 200] (hp I L w1 w2 t) (some (.int (bI (decide (¬ I 200 10 = 0))))) (hp (if I 200 10 = 0 then I else bkS I) L w1 w2 t) := by
  refine SpE_of ok_X11_back rfl rfl ?_
  show AW S m_X11_back 15 _ _ 0 0 0 [some (.ref 200)] [] (hp I L w1 w2 t)
  refine a_l0 rfl rfl rfl ?_
  refine a_geti rfl gfX11_378_11 rfl ?_
  refine a_if_ne rfl (fun c => ?_) (fun c => ?_)
  · rw [if_neg c]
    refine a_l0 rfl rfl rfl ?_
    refine a_getq rfl gfX11_37_11 rfl (rfl) ?_
    refine a_l0 rfl rfl rfl ?_
    refine a_getq rfl gfX11_58_11 rfl (rfl) ?_
    refine a_eV0 rfl lX11_375 mo_X5_copyAll (sp_X5_copyAll (a := 235) (b := 268) (by decide) (by decide) (by decide)) rfl rfl rfl ⟨5, _, rfl, rfl, rfl⟩ rfl ?_
    refine a_l0 rfl rfl rfl ?_
    refine a_getq rfl gfX11_44_11 rfl (rfl) ?_
    refine a_l0 rfl rfl rfl ?_
    refine a_getq rfl gfX11_61_11 rfl (rfl) ?_
    refine a_eV0 rfl lX11_104 mo_X2_copyFrom (sp_X2_copyFrom (a := 246) (b := 279) (by decide) (by decide) (by decide)) rfl rfl rfl ⟨2, _, rfl, rfl, rfl⟩ rfl ?_
    refine a_l0 rfl rfl rfl ?_
    refine a_s rfl rfl ?_
    refine a_puti rfl pfX11_95_11 rfl ?_
    refine a_s rfl rfl ?_
    exact a_zret rfl rfl rfl ⟨by rw [decide_eq_true c]; rfl, rfl⟩
  · rw [if_pos c]
    refine a_s rfl rfl ?_
    exact a_zret rfl rfl rfl ⟨by rw [decide_eq_false (fun z => z c)]; rfl, rfl⟩
def imS (I : Nat → Nat → Int32) : Nat → Nat → Int32 := up2 (cpL (cpS I 268 235 11) 279 246) 200 10 1
theorem f_image : SpE S m_X11_image 15 [.ref 200] (hp I L w1 w2 t) none (hp (imS I) L w1 w2 t) := by
  refine SpE_of ok_X11_image rfl rfl ?_
  show AW S m_X11_image 15 _ _ 0 0 0 [some (.ref 200)] [] (hp I L w1 w2 t)
  refine a_l0 rfl rfl rfl ?_
  refine a_getq rfl gfX11_58_11 rfl (rfl) ?_
  refine a_l0 rfl rfl rfl ?_
  refine a_getq rfl gfX11_37_11 rfl (rfl) ?_
  refine a_eV0 rfl lX11_375 mo_X5_copyAll (sp_X5_copyAll (a := 268) (b := 235) (by decide) (by decide) (by decide)) rfl rfl rfl ⟨5, _, rfl, rfl, rfl⟩ rfl ?_
  refine a_l0 rfl rfl rfl ?_
  refine a_getq rfl gfX11_61_11 rfl (rfl) ?_
  refine a_l0 rfl rfl rfl ?_
  refine a_getq rfl gfX11_44_11 rfl (rfl) ?_
  refine a_eV0 rfl lX11_104 mo_X2_copyFrom (sp_X2_copyFrom (a := 279) (b := 246) (by decide) (by decide) (by decide)) rfl rfl rfl ⟨2, _, rfl, rfl, rfl⟩ rfl ?_
  refine a_l0 rfl rfl rfl ?_
  refine a_s rfl rfl ?_
  refine a_putz rfl pfX11_378_11 ⟨rfl, rfl⟩ rfl ?_
  exact a_vret rfl rfl ⟨rfl, rfl⟩
theorem f_seed {x : Int32} : SpE S m_X11_seed 12 [.ref 200, .int x] (hp I L w1 w2 t) (some (.int (I 235 15))) (hp (up2 I 235 15 x) L w1 w2 t) := by
  refine SpE_of ok_X11_seed rfl rfl ?_
  show AW S m_X11_seed 12 _ _ 0 0 0 [some (.ref 200), some (.int x), none] [] (hp I L w1 w2 t)
  refine a_l0 rfl rfl rfl ?_
  refine a_getq rfl gfX11_37_11 rfl (rfl) ?_
  refine a_getiv (v := I 235 15) rfl gfX11_353_5 rfl (rfl) ?_
  refine a_s2 rfl rfl rfl rfl rfl rfl ?_
  refine a_l0 rfl rfl rfl ?_
  refine a_getq rfl gfX11_37_11 rfl (rfl) ?_
  refine a_l1 rfl rfl rfl ?_
  refine a_puti rfl pfX11_353_5 rfl ?_
  refine a_l2 rfl rfl rfl ?_
  exact a_iret rfl rfl ⟨rfl, rfl⟩
end T79u
end
