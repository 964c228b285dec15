/-! ===== the reference: parts, sums, tags, conditions, as functions (printed by program) ===== -/
section T79h
variable {S : aS} {I : Nat → Nat → Int32} {L : Nat → Nat → Int64} {w1 w2 t : Nat} {e p b n0 : Nat} {T : Nat → Int32} {o : List Int32}
set_option maxRecDepth 100000
/-- a code as the reference keeps it: its step, its number -/
def stF (x : Int32) : Int32 := if x < 1000 then 9 else if x < 2000 then x - 1000 else x - 1990
def snF (x : Int32) : Int32 := if x < 1000 then x else 0
def RowS (W : Nat → Int32) : List Int32 → Prop
  | [] => True
  | x :: r => (W (1233 + 2 * r.length) = stF x ∧ W (1233 + 2 * r.length + 1) = snF x) ∧ RowS W r
theorem RowS.eq {W W' : Nat → Int32} : ∀ {r : List Int32}, RowS W r → (∀ k, 1233 ≤ k → k < 1233 + 2 * r.length → W' k = W k) → RowS W' r := by
  intro r
  induction r with
  | nil => exact fun _ _ => trivial
  | cons x r ih =>
    intro h f
    have f : ∀ k, 1233 ≤ k → k < 1233 + 2 * (r.length + 1) → W' k = W k := f
    exact ⟨⟨(f _ (by omega) (by omega)).trans h.1.1, (f _ (by omega) (by omega)).trans h.1.2⟩, ih h.2 fun k g1 g2 => f k g1 (by omega)⟩
theorem RowS.em {J : Nat → Nat → Int32} {x y z : Int32} {r : List Int32} (h : RowS (J 421) r) (hx : x = stF z) (hy : y = snF z) : RowS (emH J r.length x y 421) (z :: r) := ⟨⟨emH_0.trans hx, emH_1.trans hy⟩, RowS.eq h fun _ _ g2 => emH_lo g2⟩
/-- from I (n0 steps) to J: at p, what is next begins at b, emitted is o -/
def Cf (T : Nat → Int32) (e n0 b : Nat) (o : List Int32) (I J : Nat → Nat → Int32) (p : Nat) : Prop := Fm (sY n0) I J ∧ J 420 13 = I 420 13 ∧ Pp e p J ∧ rn T e 4 p = b ∧ J 420 16 = nI o.length ∧ RowS (J 421) o ∧ n0 ≤ o.length
theorem Cf.pp {J : Nat → Nat → Int32} (h : Cf T e n0 b o I J p) : Pp e p J := h.2.2.1
theorem Cf.nb {J : Nat → Nat → Int32} (h : Cf T e n0 b o I J p) : rn T e 4 p = b := h.2.2.2.1
theorem Cf.st {J : Nat → Nat → Int32} (h : Cf T e n0 b o I J p) : J 420 16 = nI o.length := h.2.2.2.2.1
theorem Cf.d {J : Nat → Nat → Int32} {x : Int32} (h : Cf T e n0 b o I J p) (hd : I 420 13 = x) : J 420 13 = x := h.2.1.trans hd
theorem Cf.tt {J : Nat → Nat → Int32} (h : Cf T e n0 b o I J p) (hT : I 426 = T) : J 426 = T := (funext fun k => h.1 426 k rfl).trans hT
theorem Cf.le {J : Nat → Nat → Int32} (h : Cf T e n0 b o I J p) : b ≤ e := by
  rw [← Cf.nb h]
  exact rn_le (Pp.le (Cf.pp h))
theorem Cf.e4 {J : Nat → Nat → Int32} (h : Cf T e n0 b o I J p) : e ≤ 400 := Pp.e4 (Cf.pp h)
theorem Cf.sk {J : Nat → Nat → Int32} (h : Cf T e n0 b o I J p) : rn T e 4 b = b := by
  rw [← Cf.nb h]
  exact rn_rn
theorem Cf.rd {J K : Nat → Nat → Int32} {b2 p' b' : Nat} (h : Cf T e n0 b o I J p) (r : Rd e p b2 p' J K) (hb : rn T e 4 p' = b') : Cf T e n0 b' o I K p' := ⟨Fm.tr h.1 (Fm.mo (Rd.fm r) sR_sY), (Rd.fm r 420 13 rfl).trans h.2.1, Rd.pp r, hb, (Rd.fm r 420 16 rfl).trans h.2.2.2.2.1, by rw [Rd.w r]; exact h.2.2.2.2.2.1, h.2.2.2.2.2.2⟩
theorem Cf.em {J : Nat → Nat → Int32} {x y z : Int32} (h : Cf T e n0 b o I J p) (hx : x = stF z) (hy : y = snF z) : Cf T e n0 b (z :: o) I (emH J o.length x y) p := ⟨Fm.tr h.1 (Fm.mo emH_fm (sY_mono h.2.2.2.2.2.2)), (emH_f (by decide)).trans h.2.1, Pp.em h.2.2.1, h.2.2.2.1, up2_at, RowS.em h.2.2.2.2.2.1 hx hy, by have := h.2.2.2.2.2.2; show n0 ≤ o.length + 1; omega⟩
theorem Cf.ef {J : Nat → Nat → Int32} {x y : Int32} (h : Cf T e n0 b o I J p) : Fm (sY n0) I (emH J o.length x y) := Fm.tr h.1 (Fm.mo emH_fm (sY_mono h.2.2.2.2.2.2))
theorem Cf.cc {K J : Nat → Nat → Int32} {b' p' : Nat} {o' : List Int32} (h : Cf T e n0 b o I J p) (g : Cf T e n0 b' o' J K p') : Cf T e n0 b' o' I K p' := ⟨Fm.tr h.1 g.1, g.2.1.trans h.2.1, g.2.2⟩
theorem Cf.rf {J : Nat → Nat → Int32} (h : Cf T e n0 b o I J p) : Cf T e n0 b o J J p := ⟨Fm.rf, rfl, h.2.2⟩
theorem Cf.up13 {J : Nat → Nat → Int32} {x : Int32} (h : Cf T e n0 b o I J p) : Cf T e n0 b o (up2 J 420 13 x) (up2 J 420 13 x) p := by
  obtain ⟨-, -, g1, g2, g3, g4, g5⟩ := h
  refine ⟨Fm.rf, rfl, ?_, g2, (up2_ne (Or.inr (by decide))).trans g3, ?_, g5⟩
  · unfold Pp
    rw [up2_ne (Or.inr (by decide)), up2_ne (Or.inr (by decide))]
    exact g1
  · rw [up2_row (by decide)]
    exact g4
theorem Cf.deep {J K : Nat → Nat → Int32} {b' p' : Nat} {o' : List Int32} {x y : Int32} (h : Cf T e n0 b o I J p) (hd : I 420 13 = x) (g : Cf T e n0 b' o' (up2 J 420 13 y) K p') : Cf T e n0 b' o' I (up2 K 420 13 x) p' := by
  obtain ⟨f, -, g1, g2, g3, g4, g5⟩ := g
  refine ⟨Fm.up (Fm.tr h.1 (Fm.tr (Fm.up Fm.rf rfl) f)) rfl, up2_at.trans hd.symm, ?_, g2, (up2_ne (Or.inr (by decide))).trans g3, ?_, g5⟩
  · unfold Pp
    rw [up2_ne (Or.inr (by decide)), up2_ne (Or.inr (by decide))]
    exact g1
  · rw [up2_row (by decide)]
    exact g4
/-- read as the function says -/
def QF (T : Nat → Int32) (e n0 : Nat) (r : PR) (I : Nat → Nat → Int32) (L : Nat → Nat → Int64) (w1 w2 t : Nat) : Option Value → aH → Prop := fun v h' => v = some (.int (bI r.1)) ∧ ∃ J p, h' = hp J L w1 w2 t ∧ (r.1 = true → Cf T e n0 r.2.1 r.2.2 I J p) ∧ (r.1 = false → Fm (sY n0) I J ∧ J 420 12 = nI r.2.1)
theorem QF.yes {J : Nat → Nat → Int32} (h : Cf T e n0 b o I J p) : QF T e n0 (true, b, o) I L w1 w2 t (some (.int (bI true))) (hp J L w1 w2 t) := ⟨rfl, J, p, rfl, fun _ => h, fun z => by cases z⟩
theorem QF.no {J : Nat → Nat → Int32} (f : Fm (sY n0) I J) (hb : J 420 12 = nI b) : QF T e n0 (false, b, o) I L w1 w2 t (some (.int (bI false))) (hp J L w1 w2 t) := ⟨rfl, J, 0, rfl, fun z => (by cases z), fun _ => ⟨f, hb⟩⟩
theorem Cf.no {J K : Nat → Nat → Int32} {b1 p1 : Nat} {o1 : List Int32} (h : Cf T e n0 b1 o1 I J p1) (f : Fm (sY n0) J K) (hb : K 420 12 = nI b) : QF T e n0 (false, b, o) I L w1 w2 t (some (.int (bI false))) (hp K L w1 w2 t) := QF.no (Fm.tr h.1 f) hb
theorem nx_of {b : Nat} : rn T e 4 (en T e b) = nx T e b := rfl
theorem atomR_gdo {D : Nat} {b : Nat} {o : List Int32} (h : b ≤ e) : Gd e b o (atomR T e D b o) := atomR_gd D b o h
theorem seqA_gd {D : Nat} {b : Nat} {o : List Int32} (h : b ≤ e) : Gd e b o (seqP T e (atomR T e D) 20 2004 b o) := seqP_gd (fun b o h => atomR_gd D b o h) h
/-- a part's number among the parts -/
def wpF (i : Nat) : Int32 := if i = 3 then 0 else if i = 24 then 1 else if i = 6 then 2 else if i = 7 then 3 else if i = 25 then 4 else if i = 26 then 5 else if i = 13 then 6 else -1
theorem wp_ok : ∀ i, i < 28 → (wpF i = -1 ∧ wPa i = -1) ∨ (¬ wpF i < 0 ∧ ¬ wPa i = -1 ∧ wpF i = stF (wPa i) ∧ 0 = snF (wPa i)) := by decide +kernel
theorem h_wordOfPart (hw : WdS S) (h12 : I 420 12 = nI b) (hbp : b ≤ p) (hq : Pp e p I) (hp1 : p = rn (I 426) e 1 b) : SpE S m_X12_wordOfPart 17 [.ref 420] (hp I L w1 w2 t) (some (.int (if kd (I 426) e b = 1 then wpF (wd (I 426) e b) else -1))) (hp I L w1 w2 t) := by
  have hi : ∀ k, k < 27 → isW (I 426) b (p - b) k = isWd (I 426) e b k := fun k hk => by
    rw [hp1]
    exact isW_wd hk
  refine SpE_of ok_X12_wordOfPart rfl rfl ?_
  show AW S m_X12_wordOfPart 17 _ _ 0 0 0 [some (.ref 420)] [] (hp I L w1 w2 t)
  refine a_l0 rfl rfl rfl ?_
  refine a_ldcs (q := 130 + 3) rfl (hw.ld (i := 3) (by decide)) ?_
  refine a_eV1 rfl lX12_109 mo_X12_isWord (h_isWord (k := 3) hw (by decide) h12 hbp hq) rfl rfl rfl ⟨12, _, rfl, rfl, rfl⟩ rfl ?_
  refine a_top (y := bI (isWd (I 426) e b 3)) (congrArg bI (hi 3 (by decide))) ?_
  cases c3 : isWd (I 426) e b 3 with
  | true =>
    refine a_if_eq rfl (fun z => absurd z (by decide)) (fun _ => ?_)
    refine a_s rfl rfl ?_
    refine a_iret rfl rfl ⟨?_, rfl⟩
    rw [if_pos (of_decide_eq_true c3).1, (of_decide_eq_true c3).2]
    rfl
  | false =>
  refine a_if_eq rfl (fun _ => ?_) (fun z => absurd rfl z)
  refine a_l0 rfl rfl rfl ?_
  refine a_ldcs (q := 130 + 24) rfl (hw.ld (i := 24) (by decide)) ?_
  refine a_eV1 rfl lX12_109 mo_X12_isWord (h_isWord (k := 24) hw (by decide) h12 hbp hq) rfl rfl rfl ⟨12, _, rfl, rfl, rfl⟩ rfl ?_
  refine a_top (y := bI (isWd (I 426) e b 24)) (congrArg bI (hi 24 (by decide))) ?_
  cases c24 : isWd (I 426) e b 24 with
  | true =>
    refine a_if_eq rfl (fun z => absurd z (by decide)) (fun _ => ?_)
    refine a_s rfl rfl ?_
    refine a_iret rfl rfl ⟨?_, rfl⟩
    rw [if_pos (of_decide_eq_true c24).1, (of_decide_eq_true c24).2]
    rfl
  | false =>
  refine a_if_eq rfl (fun _ => ?_) (fun z => absurd rfl z)
  refine a_l0 rfl rfl rfl ?_
  refine a_ldcs (q := 130 + 6) rfl (hw.ld (i := 6) (by decide)) ?_
  refine a_eV1 rfl lX12_109 mo_X12_isWord (h_isWord (k := 6) hw (by decide) h12 hbp hq) rfl rfl rfl ⟨12, _, rfl, rfl, rfl⟩ rfl ?_
  refine a_top (y := bI (isWd (I 426) e b 6)) (congrArg bI (hi 6 (by decide))) ?_
  cases c6 : isWd (I 426) e b 6 with
  | true =>
    refine a_if_eq rfl (fun z => absurd z (by decide)) (fun _ => ?_)
    refine a_s rfl rfl ?_
    refine a_iret rfl rfl ⟨?_, rfl⟩
    rw [if_pos (of_decide_eq_true c6).1, (of_decide_eq_true c6).2]
    rfl
  | false =>
  refine a_if_eq rfl (fun _ => ?_) (fun z => absurd rfl z)
  refine a_l0 rfl rfl rfl ?_
  refine a_ldcs (q := 130 + 7) rfl (hw.ld (i := 7) (by decide)) ?_
  refine a_eV1 rfl lX12_109 mo_X12_isWord (h_isWord (k := 7) hw (by decide) h12 hbp hq) rfl rfl rfl ⟨12, _, rfl, rfl, rfl⟩ rfl ?_
  refine a_top (y := bI (isWd (I 426) e b 7)) (congrArg bI (hi 7 (by decide))) ?_
  cases c7 : isWd (I 426) e b 7 with
  | true =>
    refine a_if_eq rfl (fun z => absurd z (by decide)) (fun _ => ?_)
    refine a_s rfl rfl ?_
    refine a_iret rfl rfl ⟨?_, rfl⟩
    rw [if_pos (of_decide_eq_true c7).1, (of_decide_eq_true c7).2]
    rfl
  | false =>
  refine a_if_eq rfl (fun _ => ?_) (fun z => absurd rfl z)
  refine a_l0 rfl rfl rfl ?_
  refine a_ldcs (q := 130 + 25) rfl (hw.ld (i := 25) (by decide)) ?_
  refine a_eV1 rfl lX12_109 mo_X12_isWord (h_isWord (k := 25) hw (by decide) h12 hbp hq) rfl rfl rfl ⟨12, _, rfl, rfl, rfl⟩ rfl ?_
  refine a_top (y := bI (isWd (I 426) e b 25)) (congrArg bI (hi 25 (by decide))) ?_
  cases c25 : isWd (I 426) e b 25 with
  | true =>
    refine a_if_eq rfl (fun z => absurd z (by decide)) (fun _ => ?_)
    refine a_s rfl rfl ?_
    refine a_iret rfl rfl ⟨?_, rfl⟩
    rw [if_pos (of_decide_eq_true c25).1, (of_decide_eq_true c25).2]
    rfl
  | false =>
  refine a_if_eq rfl (fun _ => ?_) (fun z => absurd rfl z)
  refine a_l0 rfl rfl rfl ?_
  refine a_ldcs (q := 130 + 26) rfl (hw.ld (i := 26) (by decide)) ?_
  refine a_eV1 rfl lX12_109 mo_X12_isWord (h_isWord (k := 26) hw (by decide) h12 hbp hq) rfl rfl rfl ⟨12, _, rfl, rfl, rfl⟩ rfl ?_
  refine a_top (y := bI (isWd (I 426) e b 26)) (congrArg bI (hi 26 (by decide))) ?_
  cases c26 : isWd (I 426) e b 26 with
  | true =>
    refine a_if_eq rfl (fun z => absurd z (by decide)) (fun _ => ?_)
    refine a_s rfl rfl ?_
    refine a_iret rfl rfl ⟨?_, rfl⟩
    rw [if_pos (of_decide_eq_true c26).1, (of_decide_eq_true c26).2]
    rfl
  | false =>
  refine a_if_eq rfl (fun _ => ?_) (fun z => absurd rfl z)
  refine a_l0 rfl rfl rfl ?_
  refine a_ldcs (q := 130 + 13) rfl (hw.ld (i := 13) (by decide)) ?_
  refine a_eV1 rfl lX12_109 mo_X12_isWord (h_isWord (k := 13) hw (by decide) h12 hbp hq) rfl rfl rfl ⟨12, _, rfl, rfl, rfl⟩ rfl ?_
  refine a_top (y := bI (isWd (I 426) e b 13)) (congrArg bI (hi 13 (by decide))) ?_
  cases c13 : isWd (I 426) e b 13 with
  | true =>
    refine a_if_eq rfl (fun z => absurd z (by decide)) (fun _ => ?_)
    refine a_s rfl rfl ?_
    refine a_goto rfl ?_
    refine a_iret rfl rfl ⟨?_, rfl⟩
    rw [if_pos (of_decide_eq_true c13).1, (of_decide_eq_true c13).2]
    rfl
  | false =>
  refine a_if_eq rfl (fun _ => ?_) (fun z => absurd rfl z)
  refine a_s rfl rfl ?_
  refine a_iret rfl rfl ⟨?_, rfl⟩
  by_cases c : kd (I 426) e b = 1
  · rw [if_pos c]
    have ne : ∀ k, isWd (I 426) e b k = false → wd (I 426) e b ≠ k := fun k hk z => by
      rw [show isWd (I 426) e b k = true from decide_eq_true ⟨c, z⟩] at hk
      cases hk
    unfold wpF
    rw [if_neg (ne 3 c3), if_neg (ne 24 c24), if_neg (ne 6 c6), if_neg (ne 7 c7), if_neg (ne 25 c25), if_neg (ne 26 c26), if_neg (ne 13 c13)]
  · rw [if_neg c]
def prtP (T : Nat → Int32) (e b : Nat) (o : List Int32) : PR := if prt T e b = -1 then (false, b, []) else (true, nx T e b, prt T e b :: o)
theorem nI_st : ∀ m, m < 1000 → (9 = stF (nI m) ∧ nI m = snF (nI m)) := by decide +kernel
theorem h_readPart (hw : WdS S) (hT : I 426 = T) (h : Cf T e n0 b o I I p) (hB : o.length < b) : Sp S m_X12_readPart 18 0 0 [.ref 420] (hp I L w1 w2 t) (QF T e n0 (prtP T e b o) I L w1 w2 t) nX := by
  have hbe := Cf.le h
  have he4 := Cf.e4 h
  have hskb := Cf.sk h
  refine Sp_of ok_X12_readPart rfl rfl ?_
  show AW S m_X12_readPart 18 _ _ 0 0 0 [some (.ref 420), none, none] [] (hp I L w1 w2 t)
  have bad : ∀ {z : Bool} {b' p' : Nat} {J : Nat → Nat → Int32}, prt T e b = -1 → Cf T e n0 b' o I J p' → o.length < 400 → J 420 12 = nI b → AW S m_X12_readPart 18 (QF T e n0 (prtP T e b o) I L w1 w2 t) nX 0 0 40 [some (.ref 420), some (.int (bI z)), none] [.int (-1)] (hp J L w1 w2 t) := by
    intro z b' p' J hp1 h2 ho4 hbeg
    rw [show prtP T e b o = (false, b, []) from if_pos hp1]
    have fin : ∀ {x y : Int32}, AW S m_X12_readPart 18 (QF T e n0 (false, b, []) I L w1 w2 t) nX 0 0 61 [some (.ref 420), some (.int (bI z)), some (.int (-1))] [.int y, .int x, .ref 420] (hp J L w1 w2 t) := by
      intro x y
      refine a_eV0 rfl lX12_180 mo_X12_emits (r_X12_emits (Cf.st h2) (by omega)) rfl rfl rfl ⟨12, _, rfl, rfl, rfl⟩ rfl ?_
      refine a_l2 rfl rfl rfl ?_
      refine a_if_lt rfl (fun _ => ?_) (fun c => absurd (by decide) c)
      refine a_s rfl rfl ?_
      exact a_zret rfl rfl rfl (QF.no (Cf.ef h2) ((emH_f (by decide)).trans hbeg))
    refine a_s2 rfl rfl rfl rfl rfl rfl ?_
    refine a_l0 rfl rfl rfl ?_
    refine a_l1 rfl rfl rfl ?_
    cases z with
    | false =>
      refine a_if_eq rfl (fun _ => ?_) (fun c => absurd rfl c)
      refine a_l2 rfl rfl rfl ?_
      refine a_l1 rfl rfl rfl ?_
      refine a_if_eq rfl (fun _ => ?_) (fun c => absurd rfl c)
      refine a_s rfl rfl ?_
      exact fin
    | true =>
      refine a_if_eq rfl (fun c => absurd c (by decide)) (fun _ => ?_)
      refine a_s rfl rfl ?_
      refine a_goto rfl ?_
      refine a_l1 rfl rfl rfl ?_
      refine a_if_eq rfl (fun c => absurd c (by decide)) (fun _ => ?_)
      refine a_l2 rfl rfl rfl ?_
      refine a_goto rfl ?_
      exact fin
  have good : ∀ {p' : Nat} {x y v : Int32} {J : Nat → Nat → Int32}, ¬ prt T e b = -1 → Cf T e n0 (nx T e b) o I J p' → x = stF (prt T e b) → y = snF (prt T e b) → ¬ v < 0 → AW S m_X12_readPart 18 (QF T e n0 (prtP T e b o) I L w1 w2 t) nX 0 0 61 [some (.ref 420), none, some (.int v)] [.int y, .int x, .ref 420] (hp J L w1 w2 t) := by
    intro p' x y v J hp1 h2 hx hy hv
    rw [show prtP T e b o = (true, nx T e b, prt T e b :: o) from if_neg hp1]
    have n1 := nx_lt (T := T) (prt_lt hp1)
    have n2 := Cf.le h2
    refine a_eV0 rfl lX12_180 mo_X12_emits (r_X12_emits (Cf.st h2) (by omega)) rfl rfl rfl ⟨12, _, rfl, rfl, rfl⟩ rfl ?_
    refine a_l2 rfl rfl rfl ?_
    refine a_if_lt rfl (fun c => absurd c hv) (fun _ => ?_)
    refine a_s rfl rfl ?_
    refine a_goto rfl ?_
    exact a_zret rfl rfl rfl (QF.yes (Cf.em h2 hx hy))
  refine a_l0 rfl rfl rfl ?_
  refine a_gV rfl lX12_106 mo_X12_letters (h_letters (Cf.pp h)) rfl rfl rfl ⟨12, _, rfl, rfl, rfl⟩ rfl (fun v' h' hv => ?_)
  obtain ⟨rfl, J1, rfl, h1⟩ := hv
  rw [hT, Cf.nb h] at h1
  have eT1 : J1 426 = T := (Rd.T h1).trans hT
  refine a_l0 rfl rfl rfl ?_
  refine a_geti rfl gfX12_81_12 rfl ?_
  refine a_top (y := nI (rn T e 1 b)) (Pp.pu (Rd.pp h1)) ?_
  refine a_l0 rfl rfl rfl ?_
  refine a_geti rfl gfX12_91_12 rfl ?_
  refine a_top (y := nI b) (Rd.be h1) ?_
  have hr1 := rn_le (T := T) (k := 1) hbe
  refine a_ic_ne rfl (fun c => ?_) (fun c => ?_)
  · have k1 : kd T e b = 1 := by
      have hne : ¬ rn T e 1 b = b := fun z => c (congrArg nI z)
      cases ck : isK T e 1 b with
      | true => exact (kd_lt (isK_lt ck)).trans (isK_kc ck)
      | false => exact absurd (rn_f ck) hne
    have hlt := kd_in (T := T) (e := e) (b := b) (by rw [k1]; decide)
    have C1 : Cf T e n0 (nx T e b) o I J1 (rn T e 1 b) := Cf.rd h h1 (by rw [← en_1 k1]; rfl)
    have ep : prt T e b = wPa (wd T e b) := (if_neg (by rw [k1]; decide)).trans (if_pos k1)
    refine a_s rfl rfl ?_
    refine a_s1 rfl rfl rfl rfl rfl rfl ?_
    refine a_l1 rfl rfl rfl ?_
    refine a_if_eq rfl (fun _ => ?_) (fun c => absurd rfl c)
    refine a_l0 rfl rfl rfl ?_
    refine a_eV1 rfl lX12_177 mo_X12_wordOfPart (h_wordOfPart hw (Rd.be h1) (Rd.bp h1) (Rd.pp h1) (by rw [eT1])) rfl rfl rfl ⟨12, _, rfl, rfl, rfl⟩ rfl ?_
    refine a_top (y := wpF (wd T e b)) (by rw [eT1]; exact if_pos k1) ?_
    have hw27 := wd_le (T := T) (e := e) (b := b)
    rcases wp_ok (wd T e b) (by omega) with ⟨z1, z2⟩ | ⟨z1, z2, z3, z4⟩
    · rw [z1]
      exact bad (z := false) (ep.trans z2) C1 (by omega) (Rd.be h1)
    · refine a_s2 rfl rfl rfl rfl rfl rfl ?_
      refine a_l0 rfl rfl rfl ?_
      refine a_l1 rfl rfl rfl ?_
      refine a_if_eq rfl (fun _ => ?_) (fun c => absurd rfl c)
      refine a_l2 rfl rfl rfl ?_
      refine a_l1 rfl rfl rfl ?_
      refine a_if_eq rfl (fun _ => ?_) (fun c => absurd rfl c)
      refine a_s rfl rfl ?_
      exact a_less (good (by rw [ep]; exact z2) C1 (by rw [ep]; exact z3) (by rw [ep]; exact z4) z1) ⟨rfl, rfl, trivial⟩
  · have er : rn T e 1 b = b := nI_inj (by omega) (by omega) c
    rw [er] at h1
    have k1 : kd T e b ≠ 1 := fun z => by
      have := rn_t (kd_isK (by decide) z)
      have h9 := rn_ge (T := T) (e := e) (k := 1) (p := b + 1)
      omega
    refine a_s rfl rfl ?_
    refine a_goto rfl ?_
    refine a_s1 rfl rfl rfl rfl rfl rfl ?_
    refine a_l1 rfl rfl rfl ?_
    refine a_if_eq rfl (fun c => absurd c (by decide)) (fun _ => ?_)
    refine a_l0 rfl rfl rfl ?_
    refine a_s rfl rfl ?_
    refine a_s rfl rfl ?_
    refine a_gV rfl lX12_113 mo_X12_number (h_number (b := b) (x := 0) (y := 999) (Rd.pp h1) (by rw [eT1]; exact hskb) (by decide)) rfl rfl rfl ⟨12, _, rfl, rfl, rfl⟩ rfl (fun v' h' hv => ?_)
    obtain ⟨rfl, J2, rfl, h2⟩ := hv
    rw [eT1] at h2 ⊢
    refine a_goto rfl ?_
    have ep : prt T e b = if kd T e b = 2 then vl T e b else -1 := by
      unfold prt
      by_cases c2 : kd T e b = 2
      · rw [if_pos c2, if_pos c2]
      · rw [if_neg c2, if_neg c2, if_neg k1]
    have C1 := Cf.rd h h1 hskb
    by_cases cv : prt T e b = -1
    · have en1 : nm T e b 0 999 = -1 := if_neg fun z => by
        rw [ep, if_pos z.1] at cv
        rw [cv] at z
        exact absurd z.2.1 (by decide)
      rw [en1]
      exact bad (z := true) cv (Cf.rd (b' := rn T e 4 (rn T e 2 b)) C1 h2 rfl) (by omega) (Rd.be h2)
    · have k2 : kd T e b = 2 := by
        by_cases c2 : kd T e b = 2
        · exact c2
        · rw [ep, if_neg c2] at cv
          exact absurd rfl cv
      rw [if_pos k2] at ep
      obtain ⟨m, hm, em⟩ := nu_rng k2 (by rw [← ep]; exact cv)
      have en1 : nm T e b 0 999 = nI m := by
        rw [← em]
        refine if_pos ⟨k2, ?_, ?_⟩
        · rw [em]
          exact nI_0le (by omega)
        · rw [em]
          exact nI_leu (j := 999) (by omega) (by decide)
      rw [en1]
      obtain ⟨s9, sn⟩ := nI_st m hm
      have C2 : Cf T e n0 (nx T e b) o I J2 (rn T e 2 b) := Cf.rd C1 h2 (by rw [← en_2 k2]; rfl)
      refine a_s2 rfl rfl rfl rfl rfl rfl ?_
      refine a_l0 rfl rfl rfl ?_
      refine a_l1 rfl rfl rfl ?_
      refine a_if_eq rfl (fun c => absurd c (by decide)) (fun _ => ?_)
      refine a_s rfl rfl ?_
      refine a_goto rfl ?_
      refine a_l1 rfl rfl rfl ?_
      refine a_if_eq rfl (fun c => absurd c (by decide)) (fun _ => ?_)
      refine a_l2 rfl rfl rfl ?_
      refine a_goto rfl ?_
      exact a_less (good cv C2 (by rw [ep, em]; exact s9) (by rw [ep, em]; exact sn) (nI_pos (by omega))) ⟨rfl, rfl, trivial⟩
theorem h_readSum (hw : WdS S) (hbt : BtT T) (hT : I 426 = T) (h : Cf T e n0 b o I I p) (hB : o.length < b) : Sp S m_X12_readSum 19 0 0 [.ref 420] (hp I L w1 w2 t) (QF T e n0 (sumP T e b o) I L w1 w2 t) nX := by
  have he4 := Cf.e4 h
  refine Sp_of ok_X12_readSum rfl rfl ?_
  show AW S m_X12_readSum 19 _ _ 0 0 0 [some (.ref 420)] [] (hp I L w1 w2 t)
  refine a_l0 rfl rfl rfl ?_
  refine a_gV rfl lX12_184 mo_X12_readPart (h_readPart hw hT h hB) rfl rfl rfl ⟨12, _, rfl, rfl, rfl⟩ rfl (fun v' h' hv => ?_)
  obtain ⟨rfl, J1, p1, rfl, hz1, hf1⟩ := hv
  by_cases c : prt T e b = -1
  · rw [show prtP T e b o = (false, b, []) from if_pos c] at hf1 ⊢
    rw [show sumP T e b o = (false, b, []) from if_pos c]
    refine a_if_ne rfl (fun z => absurd rfl z) (fun _ => ?_)
    refine a_s rfl rfl ?_
    exact a_zret rfl rfl rfl (QF.no (hf1 rfl).1 (hf1 rfl).2)
  rw [show prtP T e b o = (true, nx T e b, prt T e b :: o) from if_neg c] at hz1 ⊢
  have es0 : sumP T e b o = smL T e (nx T e b) (prt T e b :: o) := if_neg c
  have n1 := nx_lt (T := T) (prt_lt c)
  refine a_if_ne rfl (fun _ => ?_) (fun z => absurd (show (1 : Int32) = 0 from z) (by decide))
  refine a_inv (n := e - nx T e b) (fun m ls h => ls = [some (.ref 420)] ∧ ∃ J p' b' o', h = hp J L w1 w2 t ∧ Cf T e n0 b' o' I J p' ∧ o'.length < b' ∧ smL T e b' o' = sumP T e b o ∧ m = e - b') ⟨rfl, J1, p1, _, _, rfl, hz1 rfl, by show o.length + 1 < nx T e b; omega, es0.symm, rfl⟩ ?_
  rintro m _ _ ⟨rfl, J, p', b', o', rfl, C, hB', es, hm⟩ ih
  have eT := Cf.tt C hT
  refine a_l0 rfl rfl rfl ?_
  refine a_s rfl rfl ?_
  refine a_gV rfl lX12_187 mo_X12_sign (h_sign (b := b') (c := 43) (by rw [eT]; exact hbt) (by decide) (Cf.pp C) (by rw [eT]; exact Cf.nb C)) rfl rfl rfl ⟨12, _, rfl, rfl, rfl⟩ rfl (fun v' h' hv => ?_)
  obtain ⟨rfl, J2, rfl, h2⟩ := hv
  rw [eT] at h2 ⊢
  cases cs : sg T e b' (nI 43) with
  | false =>
    have cs : sg T e b' 43 = false := cs
    refine a_if_eq rfl (fun _ => ?_) (fun z => absurd rfl z)
    rw [if_neg (by rw [show sg T e b' (nI 43) = false from cs]; decide)] at h2
    refine a_s rfl rfl ?_
    rw [← es, smL_f cs]
    exact a_zret rfl rfl rfl (QF.yes (Cf.rd C h2 (Cf.sk C)))
  | true =>
    have cs : sg T e b' 43 = true := cs
    refine a_if_eq rfl (fun z => absurd z (by decide)) (fun _ => ?_)
    rw [if_pos (show sg T e b' (nI 43) = true from cs)] at h2
    have n2 := nx_lt (T := T) (sg_lt cs)
    have C2 : Cf T e n0 (nx T e b') o' I J2 (en T e b') := Cf.rd C h2 rfl
    have n2e := Cf.le C2
    refine a_l0 rfl rfl rfl ?_
    refine a_gV rfl lX12_184 mo_X12_readPart (h_readPart hw (Cf.tt C2 hT) (Cf.rf C2) (by omega)) rfl rfl rfl ⟨12, _, rfl, rfl, rfl⟩ rfl (fun v' h' hv => ?_)
    obtain ⟨rfl, J3, p3, rfl, hz3, hf3⟩ := hv
    by_cases cp : prt T e (nx T e b') = -1
    · rw [show prtP T e (nx T e b') o' = (false, nx T e b', []) from if_pos cp] at hf3 ⊢
      refine a_if_ne rfl (fun z => absurd rfl z) (fun _ => ?_)
      refine a_s rfl rfl ?_
      rw [← es, smL_n cs cp]
      exact a_zret rfl rfl rfl (Cf.no C2 (hf3 rfl).1 (hf3 rfl).2)
    · rw [show prtP T e (nx T e b') o' = (true, nx T e (nx T e b'), prt T e (nx T e b') :: o') from if_neg cp] at hz3 ⊢
      refine a_if_ne rfl (fun _ => ?_) (fun z => absurd (show (1 : Int32) = 0 from z) (by decide))
      rw [smL_t cs cp] at es
      have n3 := nx_lt (T := T) (prt_lt cp)
      have C3 := Cf.cc C2 (hz3 rfl)
      have n3e : nx T e (nx T e b') ≤ e := Cf.le C3
      refine a_l0 rfl rfl rfl ?_
      refine a_s rfl rfl ?_
      refine a_s rfl rfl ?_
      refine a_eV0 rfl lX12_180 mo_X12_emits (r_X12_emits (Cf.st C3) (by show o'.length + 1 ≤ 399; omega)) rfl rfl rfl ⟨12, _, rfl, rfl, rfl⟩ rfl ?_
      refine a_goto rfl ?_
      exact ih (e - nx T e (nx T e b')) _ _ (by omega) ⟨rfl, _, p3, _, _, rfl, Cf.em (z := 2000) C3 (by decide) (by decide), by show o'.length + 1 + 1 < nx T e (nx T e b'); omega, es, rfl⟩
theorem h_readTag (hw : WdS S) (hT : I 426 = T) (h : Cf T e n0 b o I I p) (hB : o.length < b) : Sp S m_X12_readTag 17 0 0 [.ref 420] (hp I L w1 w2 t) (fun v h' => ∃ z x J p', v = some (.int (bI z)) ∧ h' = hp J L w1 w2 t ∧ (z = true → ((isWd T e b 22 = true ∧ x = 1007) ∨ (isWd T e b 22 = false ∧ isWd T e b 23 = true ∧ x = 1008)) ∧ Cf T e n0 (nx T e b) (x :: o) I J p') ∧ (z = false → (isWd T e b 22 = false ∧ isWd T e b 23 = false) ∧ Cf T e n0 b o I J p')) nX := by
  have hbe := Cf.le h
  have he4 := Cf.e4 h
  refine Sp_of ok_X12_readTag rfl rfl ?_
  show AW S m_X12_readTag 17 _ _ 0 0 0 [some (.ref 420), none] [] (hp I L w1 w2 t)
  refine a_l0 rfl rfl rfl ?_
  refine a_gV rfl lX12_106 mo_X12_letters (h_letters (Cf.pp h)) rfl rfl rfl ⟨12, _, rfl, rfl, rfl⟩ rfl (fun v' h' hv => ?_)
  obtain ⟨rfl, J1, rfl, h1⟩ := hv
  rw [hT, Cf.nb h] at h1
  have eT1 : J1 426 = T := (Rd.T h1).trans hT
  have good : ∀ (k : Nat) (x : Int32), nI k = stF x → 0 = snF x → k < 100 → kd T e b = 1 → ((isWd T e b 22 = true ∧ x = 1007) ∨ (isWd T e b 22 = false ∧ isWd T e b 23 = true ∧ x = 1008)) → AW S m_X12_readTag 17 (fun v h' => ∃ z x J p', v = some (.int (bI z)) ∧ h' = hp J L w1 w2 t ∧ (z = true → ((isWd T e b 22 = true ∧ x = 1007) ∨ (isWd T e b 22 = false ∧ isWd T e b 23 = true ∧ x = 1008)) ∧ Cf T e n0 (nx T e b) (x :: o) I J p') ∧ (z = false → (isWd T e b 22 = false ∧ isWd T e b 23 = false) ∧ Cf T e n0 b o I J p')) nX 0 0 33 [some (.ref 420), none] [.int (nI k)] (hp J1 L w1 w2 t) := by
    intro k x hk1 hk2 hk k1 hx
    have C1 : Cf T e n0 (nx T e b) o I J1 (rn T e 1 b) := Cf.rd h h1 (by rw [← en_1 k1]; rfl)
    refine a_s1 rfl rfl rfl rfl rfl rfl ?_
    refine a_l1 rfl rfl rfl ?_
    refine a_if_lt rfl (fun c => absurd c (nI_pos (by omega))) (fun _ => ?_)
    refine a_l0 rfl rfl rfl ?_
    refine a_l1 rfl rfl rfl ?_
    refine a_s rfl rfl ?_
    refine a_eV0 rfl lX12_180 mo_X12_emits (r_X12_emits (Cf.st C1) (by omega)) rfl rfl rfl ⟨12, _, rfl, rfl, rfl⟩ rfl ?_
    refine a_goto rfl ?_
    refine a_l1 rfl rfl rfl ?_
    refine a_if_lt rfl (fun c => absurd c (nI_pos (by omega))) (fun _ => ?_)
    refine a_s rfl rfl ?_
    refine a_goto rfl ?_
    exact a_zret rfl rfl rfl ⟨true, x, _, _, rfl, rfl, fun _ => ⟨hx, Cf.em C1 hk1 hk2⟩, fun z => by cases z⟩
  refine a_l0 rfl rfl rfl ?_
  refine a_ldcs (q := 130 + 22) rfl (hw.ld (i := 22) (by decide)) ?_
  refine a_eV1 rfl lX12_109 mo_X12_isWord (h_isWord (k := 22) hw (by decide) (Rd.be h1) (Rd.bp h1) (Rd.pp h1)) rfl rfl rfl ⟨12, _, rfl, rfl, rfl⟩ rfl ?_
  obtain ⟨z22, c22⟩ : ∃ z, isWd T e b 22 = z := ⟨_, rfl⟩
  refine a_top (y := bI z22) (by rw [eT1]; exact congrArg bI ((isW_wd (by decide)).trans c22)) ?_
  cases z22 with
  | true =>
    refine a_if_eq rfl (fun z => absurd z (by decide)) (fun _ => ?_)
    refine a_s rfl rfl ?_
    refine a_goto rfl ?_
    exact good 7 1007 (by decide) (by decide) (by decide) (of_decide_eq_true c22).1 (Or.inl ⟨c22, rfl⟩)
  | false =>
  refine a_if_eq rfl (fun _ => ?_) (fun z => absurd rfl z)
  refine a_l0 rfl rfl rfl ?_
  refine a_ldcs (q := 130 + 23) rfl (hw.ld (i := 23) (by decide)) ?_
  refine a_eV1 rfl lX12_109 mo_X12_isWord (h_isWord (k := 23) hw (by decide) (Rd.be h1) (Rd.bp h1) (Rd.pp h1)) rfl rfl rfl ⟨12, _, rfl, rfl, rfl⟩ rfl ?_
  obtain ⟨z23, c23⟩ : ∃ z, isWd T e b 23 = z := ⟨_, rfl⟩
  refine a_top (y := bI z23) (by rw [eT1]; exact congrArg bI ((isW_wd (by decide)).trans c23)) ?_
  cases z23 with
  | true =>
    refine a_if_eq rfl (fun z => absurd z (by decide)) (fun _ => ?_)
    refine a_s rfl rfl ?_
    refine a_goto rfl ?_
    exact good 8 1008 (by decide) (by decide) (by decide) (of_decide_eq_true c23).1 (Or.inr ⟨c22, c23, rfl⟩)
  | false =>
  refine a_if_eq rfl (fun _ => ?_) (fun z => absurd rfl z)
  refine a_s rfl rfl ?_
  refine a_s1 rfl rfl rfl rfl rfl rfl ?_
  refine a_l1 rfl rfl rfl ?_
  refine a_if_lt rfl (fun _ => ?_) (fun c => absurd (by decide) c)
  refine a_l0 rfl rfl rfl ?_
  refine a_l0 rfl rfl rfl ?_
  refine a_geti rfl gfX12_91_12 rfl ?_
  refine a_top (y := nI b) (Rd.be h1) ?_
  refine a_puti rfl pfX12_81_12 rfl ?_
  refine a_l1 rfl rfl rfl ?_
  refine a_if_lt rfl (fun _ => ?_) (fun c => absurd (by decide) c)
  refine a_s rfl rfl ?_
  exact a_zret rfl rfl rfl ⟨false, 0, _, b, rfl, rfl, (fun z => by cases z), fun _ => ⟨⟨c22, c23⟩, Cf.rd h (Rd.rs h1) (Cf.sk h)⟩⟩
theorem seqP_of {item : Nat → List Int32 → PR} {k : Nat} {op : Int32} {z : Bool} {b1 : Nat} {o1 : List Int32} (hr : item b o = (z, b1, o1)) : seqP T e item k op b o = if z = true then loopP T e item k op b1 o1 else (false, b1, []) := by
  unfold seqP
  rw [hr]
theorem atomR_p {D : Nat} {z : Bool} {b1 : Nat} {o1 : List Int32} (h : sg T e b 40 = true) (hr : cndP T e (atomR T e D) (nx T e b) o = (z, b1, o1)) : atomR T e (D + 1) b o = if z = true then (if sg T e b1 41 = true then (true, nx T e b1, o1) else (false, b1, [])) else (false, b1, []) := by
  unfold atomR
  rw [if_pos h, hr]
theorem atomR_n {D : Nat} {z : Bool} {b1 : Nat} {o1 : List Int32} (h : sg T e b 40 = false) (h2 : isWd T e b 21 = true) (hr : atomR T e D (nx T e b) o = (z, b1, o1)) : atomR T e (D + 1) b o = if z = true then (true, b1, 2003 :: o1) else (false, b1, []) := by
  rw [show atomR T e (D + 1) b o = (if (atomR T e D (nx T e b) o).1 = true then (true, (atomR T e D (nx T e b) o).2.1, 2003 :: (atomR T e D (nx T e b) o).2.2) else (false, (atomR T e D (nx T e b) o).2.1, [])) from (if_neg (by rw [h]; decide)).trans (if_pos h2), hr]
theorem atomR_b {D : Nat} (h : sg T e b 40 = false) (h2 : isWd T e b 21 = false) : atomR T e D b o = baseP T e b o := by
  cases D with
  | zero =>
    unfold atomR
    rw [if_neg (by unfold opn; rw [h, h2]; decide)]
  | succ D =>
    unfold atomR
    rw [if_neg (by rw [h]; decide), if_neg (by rw [h2]; decide)]
theorem atomR_0 (h : opn T e b = true) : atomR T e 0 b o = (false, b, []) := by
  unfold atomR
  rw [if_pos h]

theorem h_readAtom_6 (hw : WdS S) (hbt : BtT T) (hT : I 426 = T) (hd : I 420 13 = nI 6) (h : Cf T e n0 b o I I p) (hB : o.length < b) : Sp S m_X12_readAtom 20 0 0 [.ref 420] (hp I L w1 w2 t) (QF T e n0 (atomR T e 0 b o) I L w1 w2 t) nX := by
  have he4 := Cf.e4 h
  have hbe := Cf.le h
  refine Sp_of ok_X12_readAtom rfl rfl ?_
  show AW S m_X12_readAtom 20 _ _ 0 0 0 [some (.ref 420), none] [] (hp I L w1 w2 t)
  refine a_l0 rfl rfl rfl ?_
  refine a_s rfl rfl ?_
  refine a_gV rfl lX12_187 mo_X12_sign (h_sign (b := b) (c := 40) (by rw [hT]; exact hbt) (by decide) (Cf.pp h) (by rw [hT]; exact Cf.nb h)) rfl rfl rfl ⟨12, _, rfl, rfl, rfl⟩ rfl (fun v' h' hv => ?_)
  obtain ⟨rfl, J1, rfl, h1⟩ := hv
  rw [hT] at h1 ⊢
  cases c40 : sg T e b (nI 40) with
  | true =>
    have c40 : sg T e b 40 = true := c40
    refine a_if_eq rfl (fun z => absurd z (by decide)) (fun _ => ?_)
    rw [if_pos (show sg T e b (nI 40) = true from c40)] at h1
    have n1 := nx_lt (T := T) (sg_lt c40)
    have C1 : Cf T e n0 (nx T e b) o I J1 (en T e b) := Cf.rd h h1 rfl
    refine a_l0 rfl rfl rfl ?_
    refine a_geti rfl gfX12_194_12 rfl ?_
    refine a_top (y := nI 6) (Cf.d C1 hd) ?_
    refine a_s rfl rfl ?_
    refine a_ic_ne rfl (fun c => absurd rfl c) (fun _ => ?_)
    refine a_s rfl rfl ?_
    rw [atomR_0 (by unfold opn; rw [c40]; exact Bool.or_true _)]
    exact a_zret rfl rfl rfl (QF.no C1.1 (Rd.be h1))
  | false =>
  have c40 : sg T e b 40 = false := c40
  refine a_if_eq rfl (fun _ => ?_) (fun z => absurd rfl z)
  rw [if_neg (by rw [show sg T e b (nI 40) = false from c40]; decide)] at h1
  have C0 : Cf T e n0 b o I J1 b := Cf.rd h h1 (Cf.sk h)
  have eT0 := Cf.tt C0 hT
  refine a_l0 rfl rfl rfl ?_
  refine a_ldcs (q := 130 + 21) rfl (hw.ld (i := 21) (by decide)) ?_
  refine a_gV rfl lX12_128 mo_X12_passes (h_passes (b := b) (k := 21) hw (by decide) (Cf.pp C0) (by rw [eT0]; exact Cf.nb C0)) rfl rfl rfl ⟨12, _, rfl, rfl, rfl⟩ rfl (fun v' h' hv => ?_)
  obtain ⟨rfl, J2, rfl, h2⟩ := hv
  rw [eT0] at h2 ⊢
  cases c21 : isWd T e b 21 with
  | true =>
    refine a_if_eq rfl (fun z => absurd z (by decide)) (fun _ => ?_)
    rw [if_pos c21] at h2
    have n1 := nx_lt (T := T) (isWd_lt c21)
    have C2 : Cf T e n0 (nx T e b) o I J2 (en T e b) := Cf.rd C0 h2 rfl
    refine a_l0 rfl rfl rfl ?_
    refine a_geti rfl gfX12_194_12 rfl ?_
    refine a_top (y := nI 6) (Cf.d C2 hd) ?_
    refine a_s rfl rfl ?_
    refine a_ic_ne rfl (fun c => absurd rfl c) (fun _ => ?_)
    refine a_s rfl rfl ?_
    rw [atomR_0 (by unfold opn; rw [c21]; exact Bool.true_or _)]
    exact a_zret rfl rfl rfl (QF.no C2.1 (Rd.be h2))
  | false =>
  refine a_if_eq rfl (fun _ => ?_) (fun z => absurd rfl z)
  rw [if_neg (by rw [c21]; decide)] at h2
  have C2 : Cf T e n0 b o I J2 b := Cf.rd C0 h2 (Cf.sk C0)
  rw [atomR_b c40 c21]
  refine a_l0 rfl rfl rfl ?_
  refine a_gV rfl lX12_205 mo_X12_readTag (h_readTag hw (Cf.tt C2 hT) (Cf.rf C2) hB) rfl rfl rfl ⟨12, _, rfl, rfl, rfl⟩ rfl (fun v' h' hv => ?_)
  obtain ⟨z3, x3, J3, p3, rfl, rfl, ht3, hf3⟩ := hv
  cases z3 with
  | true =>
    refine a_if_eq rfl (fun z => absurd z (by decide)) (fun _ => ?_)
    refine a_s rfl rfl ?_
    obtain ⟨hx, D3⟩ := ht3 rfl
    rcases hx with ⟨c22, rfl⟩ | ⟨c22, c23, rfl⟩
    · rw [show baseP T e b o = (true, nx T e b, 1007 :: o) from if_pos c22]
      exact a_zret rfl rfl rfl (QF.yes (Cf.cc C2 D3))
    · rw [show baseP T e b o = (true, nx T e b, 1008 :: o) from (if_neg (by rw [c22]; decide)).trans (if_pos c23)]
      exact a_zret rfl rfl rfl (QF.yes (Cf.cc C2 D3))
  | false =>
  refine a_if_eq rfl (fun _ => ?_) (fun z => absurd rfl z)
  obtain ⟨⟨c22, c23⟩, D3⟩ := hf3 rfl
  have C3 := Cf.cc C2 D3
  have g4 := sumP_gd (T := T) (o := o) hbe
  refine a_l0 rfl rfl rfl ?_
  refine a_gV rfl lX12_208 mo_X12_readSum (h_readSum hw hbt (Cf.tt C3 hT) (Cf.rf C3) hB) rfl rfl rfl ⟨12, _, rfl, rfl, rfl⟩ rfl (fun v' h' hv => ?_)
  obtain ⟨rfl, J4, p4, rfl, hz4, hf4⟩ := hv
  rcases hr4 : sumP T e b o with ⟨z4, b4, o4⟩
  rw [baseP_s c22 c23 hr4]
  rw [hr4] at hz4 hf4 g4
  cases z4 with
  | false =>
    refine a_if_ne rfl (fun z => absurd rfl z) (fun _ => ?_)
    refine a_s rfl rfl ?_
    rw [if_neg (by decide)]
    exact a_zret rfl rfl rfl (Cf.no C3 (hf4 rfl).1 (hf4 rfl).2)
  | true =>
  refine a_if_ne rfl (fun _ => ?_) (fun z => absurd (show (1 : Int32) = 0 from z) (by decide))
  rw [if_pos rfl]
  have C4 : Cf T e n0 b4 o4 I J4 p4 := Cf.cc C3 (hz4 rfl)
  obtain ⟨-, -, g4⟩ := g4
  have g4 : b < b4 ∧ o4.length + b ≤ o.length + b4 := g4 rfl
  have key : ∀ {z5 : Bool} {x : Int32} {p' : Nat} {J : Nat → Nat → Int32}, b4 < nx T e b4 → x = (if z5 = true then 2001 else 2002) → Cf T e n0 (nx T e b4) o4 I J p' → AW S m_X12_readAtom 20 (QF T e n0 (cmpP T e x (nx T e b4) o4) I L w1 w2 t) nX 0 0 152 [some (.ref 420), some (.int (bI z5))] [] (hp J L w1 w2 t) := by
    intro z5 x p' J n4 hx C
    have g6 := sumP_gd (T := T) (o := o4) (Cf.le C)
    refine a_l0 rfl rfl rfl ?_
    refine a_gV rfl lX12_208 mo_X12_readSum (h_readSum hw hbt (Cf.tt C hT) (Cf.rf C) (by omega)) rfl rfl rfl ⟨12, _, rfl, rfl, rfl⟩ rfl (fun v' h' hv => ?_)
    obtain ⟨rfl, J6, p6, rfl, hz6, hf6⟩ := hv
    rcases hr6 : sumP T e (nx T e b4) o4 with ⟨z6, b6, o6⟩
    rw [hr6] at hz6 hf6 g6
    cases z6 with
    | false =>
      refine a_if_ne rfl (fun z => absurd rfl z) (fun _ => ?_)
      refine a_s rfl rfl ?_
      rw [cmpP_f hr6]
      exact a_zret rfl rfl rfl (Cf.no C (hf6 rfl).1 (hf6 rfl).2)
    | true =>
      refine a_if_ne rfl (fun _ => ?_) (fun z => absurd (show (1 : Int32) = 0 from z) (by decide))
      rw [cmpP_t hr6]
      have C6 : Cf T e n0 b6 o6 I J6 p6 := Cf.cc C (hz6 rfl)
      have c6e := Cf.le C6
      obtain ⟨-, -, g6⟩ := g6
      have g6 : nx T e b4 < b6 ∧ o6.length + nx T e b4 ≤ o4.length + b6 := g6 rfl
      refine a_l0 rfl rfl rfl ?_
      refine a_l1 rfl rfl rfl ?_
      cases z5 with
      | false =>
        rw [if_neg (by decide)] at hx
        subst hx
        refine a_if_eq rfl (fun _ => ?_) (fun c => absurd rfl c)
        refine a_s rfl rfl ?_
        refine a_s rfl rfl ?_
        refine a_eV0 rfl lX12_180 mo_X12_emits (r_X12_emits (Cf.st C6) (by omega)) rfl rfl rfl ⟨12, _, rfl, rfl, rfl⟩ rfl ?_
        refine a_s rfl rfl ?_
        exact a_zret rfl rfl rfl (QF.yes (Cf.em (z := 2002) C6 (by decide) (by decide)))
      | true =>
        rw [if_pos rfl] at hx
        subst hx
        refine a_if_eq rfl (fun c => absurd c (by decide)) (fun _ => ?_)
        refine a_s rfl rfl ?_
        refine a_goto rfl ?_
        refine a_s rfl rfl ?_
        refine a_eV0 rfl lX12_180 mo_X12_emits (r_X12_emits (Cf.st C6) (by omega)) rfl rfl rfl ⟨12, _, rfl, rfl, rfl⟩ rfl ?_
        refine a_s rfl rfl ?_
        exact a_zret rfl rfl rfl (QF.yes (Cf.em (z := 2001) C6 (by decide) (by decide)))
  have eT4 := Cf.tt C4 hT
  refine a_l0 rfl rfl rfl ?_
  refine a_s rfl rfl ?_
  refine a_gV rfl lX12_187 mo_X12_sign (h_sign (b := b4) (c := 60) (by rw [eT4]; exact hbt) (by decide) (Cf.pp C4) (by rw [eT4]; exact Cf.nb C4)) rfl rfl rfl ⟨12, _, rfl, rfl, rfl⟩ rfl (fun v' h' hv => ?_)
  obtain ⟨rfl, J5, rfl, h5⟩ := hv
  rw [eT4] at h5 ⊢
  refine a_s1 rfl rfl rfl rfl rfl rfl ?_
  refine a_l1 rfl rfl rfl ?_
  cases c60 : sg T e b4 (nI 60) with
  | true =>
    have c60 : sg T e b4 60 = true := c60
    refine a_if_ne rfl (fun _ => ?_) (fun z => absurd (show (1 : Int32) = 0 from z) (by decide))
    rw [if_pos (show sg T e b4 (nI 60) = true from c60)] at h5
    rw [if_pos c60]
    exact key (z5 := true) (nx_lt (sg_lt c60)) rfl (Cf.rd C4 h5 rfl)
  | false =>
  have c60 : sg T e b4 60 = false := c60
  refine a_if_ne rfl (fun z => absurd rfl z) (fun _ => ?_)
  rw [if_neg (by rw [show sg T e b4 (nI 60) = false from c60]; decide)] at h5
  rw [if_neg (by rw [c60]; decide)]
  have C5 : Cf T e n0 b4 o4 I J5 b4 := Cf.rd C4 h5 (Cf.sk C4)
  have eT5 := Cf.tt C5 hT
  refine a_l0 rfl rfl rfl ?_
  refine a_s rfl rfl ?_
  refine a_gV rfl lX12_187 mo_X12_sign (h_sign (b := b4) (c := 62) (by rw [eT5]; exact hbt) (by decide) (Cf.pp C5) (by rw [eT5]; exact Cf.nb C5)) rfl rfl rfl ⟨12, _, rfl, rfl, rfl⟩ rfl (fun v' h' hv => ?_)
  obtain ⟨rfl, J7, rfl, h7⟩ := hv
  rw [eT5] at h7 ⊢
  cases c62 : sg T e b4 (nI 62) with
  | false =>
    have c62 : sg T e b4 62 = false := c62
    refine a_if_eq rfl (fun _ => ?_) (fun z => absurd rfl z)
    rw [if_neg (by rw [show sg T e b4 (nI 62) = false from c62]; decide)] at h7
    rw [if_neg (by rw [c62]; decide)]
    refine a_s rfl rfl ?_
    exact a_zret rfl rfl rfl (QF.no (Fm.tr C5.1 (Fm.mo (Rd.fm h7) sR_sY)) (Rd.be h7))
  | true =>
    have c62 : sg T e b4 62 = true := c62
    refine a_if_eq rfl (fun z => absurd z (by decide)) (fun _ => ?_)
    rw [if_pos (show sg T e b4 (nI 62) = true from c62)] at h7
    rw [if_pos c62]
    exact key (z5 := false) (nx_lt (sg_lt c62)) rfl (Cf.rd C5 h7 rfl)
theorem h_readAllOf_6 (hw : WdS S) (hbt : BtT T) (hT : I 426 = T) (hd : I 420 13 = nI 6) (h : Cf T e n0 b o I I p) (hB : o.length < b) : Sp S m_X12_readAllOf 21 0 0 [.ref 420] (hp I L w1 w2 t) (QF T e n0 (seqP T e (atomR T e 0) 20 2004 b o) I L w1 w2 t) nX := by
  have he4 := Cf.e4 h
  have g0 := atomR_gdo (T := T) (D := 0) (o := o) (Cf.le h)
  refine Sp_of ok_X12_readAllOf rfl rfl ?_
  show AW S m_X12_readAllOf 21 _ _ 0 0 0 [some (.ref 420)] [] (hp I L w1 w2 t)
  refine a_l0 rfl rfl rfl ?_
  refine a_gV rfl lX12_202 mo_X12_readAtom (h_readAtom_6 hw hbt hT hd h hB) rfl rfl rfl ⟨12, _, rfl, rfl, rfl⟩ rfl (fun v' h' hv => ?_)
  obtain ⟨rfl, J1, p1, rfl, hz1, hf1⟩ := hv
  rcases hr : (atomR T e 0) b o with ⟨z, b1, o1⟩
  rw [seqP_of hr]
  rw [hr] at hz1 hf1 g0
  cases z with
  | false =>
    refine a_if_ne rfl (fun z => absurd rfl z) (fun _ => ?_)
    refine a_s rfl rfl ?_
    rw [if_neg (by decide)]
    exact a_zret rfl rfl rfl (QF.no (hf1 rfl).1 (hf1 rfl).2)
  | true =>
  refine a_if_ne rfl (fun _ => ?_) (fun z => absurd (show (1 : Int32) = 0 from z) (by decide))
  rw [if_pos rfl]
  obtain ⟨-, -, g3⟩ := g0
  have g3 : b < b1 ∧ o1.length + b ≤ o.length + b1 := g3 rfl
  generalize hR : loopP T e (atomR T e 0) 20 2004 b1 o1 = R
  refine a_inv (n := e - b1) (fun m ls h => ls = [some (.ref 420)] ∧ ∃ J p' b' o', h = hp J L w1 w2 t ∧ Cf T e n0 b' o' I J p' ∧ o'.length < b' ∧ loopP T e (atomR T e 0) 20 2004 b' o' = R ∧ m = e - b') ⟨rfl, J1, p1, _, _, rfl, hz1 rfl, by show o1.length < b1; omega, hR, rfl⟩ ?_
  rintro m _ _ ⟨rfl, J, p', b', o', rfl, C, hB', es, hm⟩ ih
  have eT := Cf.tt C hT
  refine a_l0 rfl rfl rfl ?_
  refine a_ldcs (q := 130 + 20) rfl (hw.ld (i := 20) (by decide)) ?_
  refine a_gV rfl lX12_128 mo_X12_passes (h_passes (b := b') (k := 20) hw (by decide) (Cf.pp C) (by rw [eT]; exact Cf.nb C)) rfl rfl rfl ⟨12, _, rfl, rfl, rfl⟩ rfl (fun v' h' hv => ?_)
  obtain ⟨rfl, J2, rfl, h2⟩ := hv
  rw [eT] at h2 ⊢
  cases cw : isWd T e b' 20 with
  | false =>
    refine a_if_eq rfl (fun _ => ?_) (fun z => absurd rfl z)
    rw [if_neg (by rw [cw]; decide)] at h2
    refine a_s rfl rfl ?_
    rw [← es, loopP_f cw]
    exact a_zret rfl rfl rfl (QF.yes (Cf.rd C h2 (Cf.sk C)))
  | true =>
    refine a_if_eq rfl (fun z => absurd z (by decide)) (fun _ => ?_)
    rw [if_pos cw] at h2
    have n2 := nx_lt (T := T) (isWd_lt cw)
    have C2 : Cf T e n0 (nx T e b') o' I J2 (en T e b') := Cf.rd C h2 rfl
    have n2e := Cf.le C2
    have g4 := atomR_gdo (T := T) (D := 0) (o := o') n2e
    refine a_l0 rfl rfl rfl ?_
    refine a_gV rfl lX12_202 mo_X12_readAtom (h_readAtom_6 hw hbt (Cf.tt C2 hT) (Cf.d C2 hd) (Cf.rf C2) (by omega)) rfl rfl rfl ⟨12, _, rfl, rfl, rfl⟩ rfl (fun v' h' hv => ?_)
    obtain ⟨rfl, J3, p3, rfl, hz3, hf3⟩ := hv
    have el := fun g => loopP_t (op := 2004) (o := o') (item := atomR T e 0) cw g
    have en' := loopP_n (op := 2004) (o := o') (item := atomR T e 0) cw
    rcases hr2 : (atomR T e 0) (nx T e b') o' with ⟨z2, b2, o2⟩
    rw [hr2] at hz3 hf3 g4 el en'
    cases z2 with
    | false =>
      refine a_if_ne rfl (fun z => absurd rfl z) (fun _ => ?_)
      refine a_s rfl rfl ?_
      rw [← es, en' Bool.false_ne_true]
      exact a_zret rfl rfl rfl (Cf.no C2 (hf3 rfl).1 (hf3 rfl).2)
    | true =>
      refine a_if_ne rfl (fun _ => ?_) (fun z => absurd (show (1 : Int32) = 0 from z) (by decide))
      have C3 : Cf T e n0 b2 o2 I J3 p3 := Cf.cc C2 (hz3 rfl)
      have c3e := Cf.le C3
      obtain ⟨-, -, g5⟩ := g4
      have g5 : nx T e b' < b2 ∧ o2.length + nx T e b' ≤ o'.length + b2 := g5 rfl
      have es2 : loopP T e (atomR T e 0) 20 2004 b2 (2004 :: o2) = R := (el (by show b' < b2; omega) rfl).symm.trans es
      refine a_l0 rfl rfl rfl ?_
      refine a_s rfl rfl ?_
      refine a_s rfl rfl ?_
      refine a_eV0 rfl lX12_180 mo_X12_emits (r_X12_emits (Cf.st C3) (by omega)) rfl rfl rfl ⟨12, _, rfl, rfl, rfl⟩ rfl ?_
      refine a_goto rfl ?_
      exact ih (e - b2) _ _ (by omega) ⟨rfl, _, p3, b2, _, rfl, Cf.em (z := 2004) C3 (by decide) (by decide), by show o2.length + 1 < b2; omega, es2, rfl⟩
theorem h_readCond_6 (hw : WdS S) (hbt : BtT T) (hT : I 426 = T) (hd : I 420 13 = nI 6) (h : Cf T e n0 b o I I p) (hB : o.length < b) : Sp S m_X12_readCond 22 0 0 [.ref 420] (hp I L w1 w2 t) (QF T e n0 (seqP T e (seqP T e (atomR T e 0) 20 2004) 19 2005 b o) I L w1 w2 t) nX := by
  have he4 := Cf.e4 h
  have g0 := seqA_gd (T := T) (D := 0) (o := o) (Cf.le h)
  refine Sp_of ok_X12_readCond rfl rfl ?_
  show AW S m_X12_readCond 22 _ _ 0 0 0 [some (.ref 420)] [] (hp I L w1 w2 t)
  refine a_l0 rfl rfl rfl ?_
  refine a_gV rfl lX12_213 mo_X12_readAllOf (h_readAllOf_6 hw hbt hT hd h hB) rfl rfl rfl ⟨12, _, rfl, rfl, rfl⟩ rfl (fun v' h' hv => ?_)
  obtain ⟨rfl, J1, p1, rfl, hz1, hf1⟩ := hv
  rcases hr : (seqP T e (atomR T e 0) 20 2004) b o with ⟨z, b1, o1⟩
  rw [seqP_of hr]
  rw [hr] at hz1 hf1 g0
  cases z with
  | false =>
    refine a_if_ne rfl (fun z => absurd rfl z) (fun _ => ?_)
    refine a_s rfl rfl ?_
    rw [if_neg (by decide)]
    exact a_zret rfl rfl rfl (QF.no (hf1 rfl).1 (hf1 rfl).2)
  | true =>
  refine a_if_ne rfl (fun _ => ?_) (fun z => absurd (show (1 : Int32) = 0 from z) (by decide))
  rw [if_pos rfl]
  obtain ⟨-, -, g3⟩ := g0
  have g3 : b < b1 ∧ o1.length + b ≤ o.length + b1 := g3 rfl
  generalize hR : loopP T e (seqP T e (atomR T e 0) 20 2004) 19 2005 b1 o1 = R
  refine a_inv (n := e - b1) (fun m ls h => ls = [some (.ref 420)] ∧ ∃ J p' b' o', h = hp J L w1 w2 t ∧ Cf T e n0 b' o' I J p' ∧ o'.length < b' ∧ loopP T e (seqP T e (atomR T e 0) 20 2004) 19 2005 b' o' = R ∧ m = e - b') ⟨rfl, J1, p1, _, _, rfl, hz1 rfl, by show o1.length < b1; omega, hR, rfl⟩ ?_
  rintro m _ _ ⟨rfl, J, p', b', o', rfl, C, hB', es, hm⟩ ih
  have eT := Cf.tt C hT
  refine a_l0 rfl rfl rfl ?_
  refine a_ldcs (q := 130 + 19) rfl (hw.ld (i := 19) (by decide)) ?_
  refine a_gV rfl lX12_128 mo_X12_passes (h_passes (b := b') (k := 19) hw (by decide) (Cf.pp C) (by rw [eT]; exact Cf.nb C)) rfl rfl rfl ⟨12, _, rfl, rfl, rfl⟩ rfl (fun v' h' hv => ?_)
  obtain ⟨rfl, J2, rfl, h2⟩ := hv
  rw [eT] at h2 ⊢
  cases cw : isWd T e b' 19 with
  | false =>
    refine a_if_eq rfl (fun _ => ?_) (fun z => absurd rfl z)
    rw [if_neg (by rw [cw]; decide)] at h2
    refine a_s rfl rfl ?_
    rw [← es, loopP_f cw]
    exact a_zret rfl rfl rfl (QF.yes (Cf.rd C h2 (Cf.sk C)))
  | true =>
    refine a_if_eq rfl (fun z => absurd z (by decide)) (fun _ => ?_)
    rw [if_pos cw] at h2
    have n2 := nx_lt (T := T) (isWd_lt cw)
    have C2 : Cf T e n0 (nx T e b') o' I J2 (en T e b') := Cf.rd C h2 rfl
    have n2e := Cf.le C2
    have g4 := seqA_gd (T := T) (D := 0) (o := o') n2e
    refine a_l0 rfl rfl rfl ?_
    refine a_gV rfl lX12_213 mo_X12_readAllOf (h_readAllOf_6 hw hbt (Cf.tt C2 hT) (Cf.d C2 hd) (Cf.rf C2) (by omega)) rfl rfl rfl ⟨12, _, rfl, rfl, rfl⟩ rfl (fun v' h' hv => ?_)
    obtain ⟨rfl, J3, p3, rfl, hz3, hf3⟩ := hv
    have el := fun g => loopP_t (op := 2005) (o := o') (item := seqP T e (atomR T e 0) 20 2004) cw g
    have en' := loopP_n (op := 2005) (o := o') (item := seqP T e (atomR T e 0) 20 2004) cw
    rcases hr2 : (seqP T e (atomR T e 0) 20 2004) (nx T e b') o' with ⟨z2, b2, o2⟩
    rw [hr2] at hz3 hf3 g4 el en'
    cases z2 with
    | false =>
      refine a_if_ne rfl (fun z => absurd rfl z) (fun _ => ?_)
      refine a_s rfl rfl ?_
      rw [← es, en' Bool.false_ne_true]
      exact a_zret rfl rfl rfl (Cf.no C2 (hf3 rfl).1 (hf3 rfl).2)
    | true =>
      refine a_if_ne rfl (fun _ => ?_) (fun z => absurd (show (1 : Int32) = 0 from z) (by decide))
      have C3 : Cf T e n0 b2 o2 I J3 p3 := Cf.cc C2 (hz3 rfl)
      have c3e := Cf.le C3
      obtain ⟨-, -, g5⟩ := g4
      have g5 : nx T e b' < b2 ∧ o2.length + nx T e b' ≤ o'.length + b2 := g5 rfl
      have es2 : loopP T e (seqP T e (atomR T e 0) 20 2004) 19 2005 b2 (2005 :: o2) = R := (el (by show b' < b2; omega) rfl).symm.trans es
      refine a_l0 rfl rfl rfl ?_
      refine a_s rfl rfl ?_
      refine a_s rfl rfl ?_
      refine a_eV0 rfl lX12_180 mo_X12_emits (r_X12_emits (Cf.st C3) (by omega)) rfl rfl rfl ⟨12, _, rfl, rfl, rfl⟩ rfl ?_
      refine a_goto rfl ?_
      exact ih (e - b2) _ _ (by omega) ⟨rfl, _, p3, b2, _, rfl, Cf.em (z := 2005) C3 (by decide) (by decide), by show o2.length + 1 < b2; omega, es2, rfl⟩
theorem h_readAtom_5 (hw : WdS S) (hbt : BtT T) (hT : I 426 = T) (hd : I 420 13 = nI 5) (h : Cf T e n0 b o I I p) (hB : o.length < b) : Sp S m_X12_readAtom 23 0 0 [.ref 420] (hp I L w1 w2 t) (QF T e n0 (atomR T e 1 b o) I L w1 w2 t) nX := by
  have he4 := Cf.e4 h
  have hbe := Cf.le h
  refine Sp_of ok_X12_readAtom rfl rfl ?_
  show AW S m_X12_readAtom 23 _ _ 0 0 0 [some (.ref 420), none] [] (hp I L w1 w2 t)
  refine a_l0 rfl rfl rfl ?_
  refine a_s rfl rfl ?_
  refine a_gV rfl lX12_187 mo_X12_sign (h_sign (b := b) (c := 40) (by rw [hT]; exact hbt) (by decide) (Cf.pp h) (by rw [hT]; exact Cf.nb h)) rfl rfl rfl ⟨12, _, rfl, rfl, rfl⟩ rfl (fun v' h' hv => ?_)
  obtain ⟨rfl, J1, rfl, h1⟩ := hv
  rw [hT] at h1 ⊢
  cases c40 : sg T e b (nI 40) with
  | true =>
    have c40 : sg T e b 40 = true := c40
    refine a_if_eq rfl (fun z => absurd z (by decide)) (fun _ => ?_)
    rw [if_pos (show sg T e b (nI 40) = true from c40)] at h1
    have n1 := nx_lt (T := T) (sg_lt c40)
    have C1 : Cf T e n0 (nx T e b) o I J1 (en T e b) := Cf.rd h h1 rfl
    refine a_l0 rfl rfl rfl ?_
    refine a_geti rfl gfX12_194_12 rfl ?_
    refine a_top (y := nI 5) (Cf.d C1 hd) ?_
    refine a_s rfl rfl ?_
    refine a_ic_ne rfl (fun _ => ?_) (fun c => absurd c (by decide))
    refine a_l0 rfl rfl rfl ?_
    refine a_s rfl rfl ?_
    refine a_geti rfl gfX12_194_12 rfl ?_
    refine a_top (y := nI 5) (Cf.d C1 hd) ?_
    refine a_s rfl rfl ?_
    refine a_s rfl rfl ?_
    refine a_top (y := nI 6) (rfl) ?_
    refine a_puti rfl pfX12_194_12 rfl ?_
    refine a_l0 rfl rfl rfl ?_
    have g4 := cndP_gd (T := T) (fun b o h => atomR_gd (T := T) 0 b o h) (o := o) (Cf.le C1)
    refine a_gV rfl lX12_197 mo_X12_readCond (h_readCond_6 hw hbt ((up2_row (by decide)).trans (Cf.tt C1 hT)) up2_at (Cf.up13 C1) (by omega)) rfl rfl rfl ⟨12, _, rfl, rfl, rfl⟩ rfl (fun v' h' hv => ?_)
    obtain ⟨rfl, J9, p9, rfl, hz9, hf9⟩ := hv
    rw [show seqP T e (seqP T e (atomR T e 0) 20 2004) 19 2005 = cndP T e (atomR T e 0) from rfl] at hz9 hf9 ⊢
    rcases hr9 : cndP T e (atomR T e 0) (nx T e b) o with ⟨z9, b9, o9⟩
    rw [hr9] at hz9 hf9 g4
    rw [atomR_p c40 hr9]
    cases z9 with
    | false =>
      refine a_if_ne rfl (fun z => absurd rfl z) (fun _ => ?_)
      refine a_s rfl rfl ?_
      rw [if_neg (by decide)]
      exact a_zret rfl rfl rfl (QF.no (Fm.tr C1.1 (Fm.tr (Fm.up Fm.rf rfl) (hf9 rfl).1)) (hf9 rfl).2)
    | true =>
      refine a_if_ne rfl (fun _ => ?_) (fun z => absurd (show (1 : Int32) = 0 from z) (by decide))
      rw [if_pos rfl]
      have D9 : Cf T e n0 b9 o9 (up2 J1 420 13 (nI 6)) J9 p9 := hz9 rfl
      refine a_l0 rfl rfl rfl ?_
      refine a_s rfl rfl ?_
      refine a_geti rfl gfX12_194_12 rfl ?_
      refine a_top (y := nI 6) (D9.2.1.trans up2_at) ?_
      refine a_s rfl rfl ?_
      refine a_s rfl rfl ?_
      refine a_top (y := nI 5) (rfl) ?_
      refine a_puti rfl pfX12_194_12 rfl ?_
      have C9 := Cf.deep C1 hd D9
      have eT9 := Cf.tt C9 hT
      refine a_l0 rfl rfl rfl ?_
      refine a_s rfl rfl ?_
      refine a_gV rfl lX12_187 mo_X12_sign (h_sign (b := b9) (c := 41) (by rw [eT9]; exact hbt) (by decide) (Cf.pp C9) (by rw [eT9]; exact Cf.nb C9)) rfl rfl rfl ⟨12, _, rfl, rfl, rfl⟩ rfl (fun v' h' hv => ?_)
      obtain ⟨rfl, J3, rfl, h3⟩ := hv
      rw [eT9] at h3 ⊢
      cases c41 : sg T e b9 (nI 41) with
      | false =>
        have c41 : sg T e b9 41 = false := c41
        rw [if_neg (by rw [show sg T e b9 (nI 41) = false from c41]; decide)] at h3
        rw [if_neg (by rw [c41]; decide)]
        exact a_zret rfl rfl rfl (QF.no (Fm.tr C9.1 (Fm.mo (Rd.fm h3) sR_sY)) (Rd.be h3))
      | true =>
        have c41 : sg T e b9 41 = true := c41
        rw [if_pos (show sg T e b9 (nI 41) = true from c41)] at h3
        rw [if_pos c41]
        exact a_zret rfl rfl rfl (QF.yes (Cf.rd C9 h3 rfl))
  | false =>
  have c40 : sg T e b 40 = false := c40
  refine a_if_eq rfl (fun _ => ?_) (fun z => absurd rfl z)
  rw [if_neg (by rw [show sg T e b (nI 40) = false from c40]; decide)] at h1
  have C0 : Cf T e n0 b o I J1 b := Cf.rd h h1 (Cf.sk h)
  have eT0 := Cf.tt C0 hT
  refine a_l0 rfl rfl rfl ?_
  refine a_ldcs (q := 130 + 21) rfl (hw.ld (i := 21) (by decide)) ?_
  refine a_gV rfl lX12_128 mo_X12_passes (h_passes (b := b) (k := 21) hw (by decide) (Cf.pp C0) (by rw [eT0]; exact Cf.nb C0)) rfl rfl rfl ⟨12, _, rfl, rfl, rfl⟩ rfl (fun v' h' hv => ?_)
  obtain ⟨rfl, J2, rfl, h2⟩ := hv
  rw [eT0] at h2 ⊢
  cases c21 : isWd T e b 21 with
  | true =>
    refine a_if_eq rfl (fun z => absurd z (by decide)) (fun _ => ?_)
    rw [if_pos c21] at h2
    have n1 := nx_lt (T := T) (isWd_lt c21)
    have C2 : Cf T e n0 (nx T e b) o I J2 (en T e b) := Cf.rd C0 h2 rfl
    refine a_l0 rfl rfl rfl ?_
    refine a_geti rfl gfX12_194_12 rfl ?_
    refine a_top (y := nI 5) (Cf.d C2 hd) ?_
    refine a_s rfl rfl ?_
    refine a_ic_ne rfl (fun _ => ?_) (fun c => absurd c (by decide))
    refine a_l0 rfl rfl rfl ?_
    refine a_s rfl rfl ?_
    refine a_geti rfl gfX12_194_12 rfl ?_
    refine a_top (y := nI 5) (Cf.d C2 hd) ?_
    refine a_s rfl rfl ?_
    refine a_s rfl rfl ?_
    refine a_top (y := nI 6) (rfl) ?_
    refine a_puti rfl pfX12_194_12 rfl ?_
    refine a_l0 rfl rfl rfl ?_
    have g4 := atomR_gdo (T := T) (D := 0) (o := o) (Cf.le C2)
    refine a_gV rfl lX12_202 mo_X12_readAtom (h_readAtom_6 hw hbt ((up2_row (by decide)).trans (Cf.tt C2 hT)) up2_at (Cf.up13 C2) (by omega)) rfl rfl rfl ⟨12, _, rfl, rfl, rfl⟩ rfl (fun v' h' hv => ?_)
    obtain ⟨rfl, J9, p9, rfl, hz9, hf9⟩ := hv
    rcases hr9 : atomR T e 0 (nx T e b) o with ⟨z9, b9, o9⟩
    rw [hr9] at hz9 hf9 g4
    rw [atomR_n c40 c21 hr9]
    cases z9 with
    | false =>
      refine a_if_ne rfl (fun z => absurd rfl z) (fun _ => ?_)
      refine a_s rfl rfl ?_
      rw [if_neg (by decide)]
      exact a_zret rfl rfl rfl (QF.no (Fm.tr C2.1 (Fm.tr (Fm.up Fm.rf rfl) (hf9 rfl).1)) (hf9 rfl).2)
    | true =>
      refine a_if_ne rfl (fun _ => ?_) (fun z => absurd (show (1 : Int32) = 0 from z) (by decide))
      rw [if_pos rfl]
      have D9 : Cf T e n0 b9 o9 (up2 J2 420 13 (nI 6)) J9 p9 := hz9 rfl
      obtain ⟨-, -, g5⟩ := g4
      have g5 : nx T e b < b9 ∧ o9.length + nx T e b ≤ o.length + b9 := g5 rfl
      have c9e := Cf.le D9
      refine a_l0 rfl rfl rfl ?_
      refine a_s rfl rfl ?_
      refine a_geti rfl gfX12_194_12 rfl ?_
      refine a_top (y := nI 6) (D9.2.1.trans up2_at) ?_
      refine a_s rfl rfl ?_
      refine a_s rfl rfl ?_
      refine a_top (y := nI 5) (rfl) ?_
      refine a_puti rfl pfX12_194_12 rfl ?_
      have C9 := Cf.deep C2 hd D9
      refine a_l0 rfl rfl rfl ?_
      refine a_s rfl rfl ?_
      refine a_s rfl rfl ?_
      refine a_eV0 rfl lX12_180 mo_X12_emits (r_X12_emits (Cf.st C9) (by omega)) rfl rfl rfl ⟨12, _, rfl, rfl, rfl⟩ rfl ?_
      refine a_s rfl rfl ?_
      exact a_zret rfl rfl rfl (QF.yes (Cf.em (z := 2003) C9 (by decide) (by decide)))
  | false =>
  refine a_if_eq rfl (fun _ => ?_) (fun z => absurd rfl z)
  rw [if_neg (by rw [c21]; decide)] at h2
  have C2 : Cf T e n0 b o I J2 b := Cf.rd C0 h2 (Cf.sk C0)
  rw [atomR_b c40 c21]
  refine a_l0 rfl rfl rfl ?_
  refine a_gV rfl lX12_205 mo_X12_readTag (h_readTag hw (Cf.tt C2 hT) (Cf.rf C2) hB) rfl rfl rfl ⟨12, _, rfl, rfl, rfl⟩ rfl (fun v' h' hv => ?_)
  obtain ⟨z3, x3, J3, p3, rfl, rfl, ht3, hf3⟩ := hv
  cases z3 with
  | true =>
    refine a_if_eq rfl (fun z => absurd z (by decide)) (fun _ => ?_)
    refine a_s rfl rfl ?_
    obtain ⟨hx, D3⟩ := ht3 rfl
    rcases hx with ⟨c22, rfl⟩ | ⟨c22, c23, rfl⟩
    · rw [show baseP T e b o = (true, nx T e b, 1007 :: o) from if_pos c22]
      exact a_zret rfl rfl rfl (QF.yes (Cf.cc C2 D3))
    · rw [show baseP T e b o = (true, nx T e b, 1008 :: o) from (if_neg (by rw [c22]; decide)).trans (if_pos c23)]
      exact a_zret rfl rfl rfl (QF.yes (Cf.cc C2 D3))
  | false =>
  refine a_if_eq rfl (fun _ => ?_) (fun z => absurd rfl z)
  obtain ⟨⟨c22, c23⟩, D3⟩ := hf3 rfl
  have C3 := Cf.cc C2 D3
  have g4 := sumP_gd (T := T) (o := o) hbe
  refine a_l0 rfl rfl rfl ?_
  refine a_gV rfl lX12_208 mo_X12_readSum (h_readSum hw hbt (Cf.tt C3 hT) (Cf.rf C3) hB) rfl rfl rfl ⟨12, _, rfl, rfl, rfl⟩ rfl (fun v' h' hv => ?_)
  obtain ⟨rfl, J4, p4, rfl, hz4, hf4⟩ := hv
  rcases hr4 : sumP T e b o with ⟨z4, b4, o4⟩
  rw [baseP_s c22 c23 hr4]
  rw [hr4] at hz4 hf4 g4
  cases z4 with
  | false =>
    refine a_if_ne rfl (fun z => absurd rfl z) (fun _ => ?_)
    refine a_s rfl rfl ?_
    rw [if_neg (by decide)]
    exact a_zret rfl rfl rfl (Cf.no C3 (hf4 rfl).1 (hf4 rfl).2)
  | true =>
  refine a_if_ne rfl (fun _ => ?_) (fun z => absurd (show (1 : Int32) = 0 from z) (by decide))
  rw [if_pos rfl]
  have C4 : Cf T e n0 b4 o4 I J4 p4 := Cf.cc C3 (hz4 rfl)
  obtain ⟨-, -, g4⟩ := g4
  have g4 : b < b4 ∧ o4.length + b ≤ o.length + b4 := g4 rfl
  have key : ∀ {z5 : Bool} {x : Int32} {p' : Nat} {J : Nat → Nat → Int32}, b4 < nx T e b4 → x = (if z5 = true then 2001 else 2002) → Cf T e n0 (nx T e b4) o4 I J p' → AW S m_X12_readAtom 23 (QF T e n0 (cmpP T e x (nx T e b4) o4) I L w1 w2 t) nX 0 0 152 [some (.ref 420), some (.int (bI z5))] [] (hp J L w1 w2 t) := by
    intro z5 x p' J n4 hx C
    have g6 := sumP_gd (T := T) (o := o4) (Cf.le C)
    refine a_l0 rfl rfl rfl ?_
    refine a_gV rfl lX12_208 mo_X12_readSum (h_readSum hw hbt (Cf.tt C hT) (Cf.rf C) (by omega)) rfl rfl rfl ⟨12, _, rfl, rfl, rfl⟩ rfl (fun v' h' hv => ?_)
    obtain ⟨rfl, J6, p6, rfl, hz6, hf6⟩ := hv
    rcases hr6 : sumP T e (nx T e b4) o4 with ⟨z6, b6, o6⟩
    rw [hr6] at hz6 hf6 g6
    cases z6 with
    | false =>
      refine a_if_ne rfl (fun z => absurd rfl z) (fun _ => ?_)
      refine a_s rfl rfl ?_
      rw [cmpP_f hr6]
      exact a_zret rfl rfl rfl (Cf.no C (hf6 rfl).1 (hf6 rfl).2)
    | true =>
      refine a_if_ne rfl (fun _ => ?_) (fun z => absurd (show (1 : Int32) = 0 from z) (by decide))
      rw [cmpP_t hr6]
      have C6 : Cf T e n0 b6 o6 I J6 p6 := Cf.cc C (hz6 rfl)
      have c6e := Cf.le C6
      obtain ⟨-, -, g6⟩ := g6
      have g6 : nx T e b4 < b6 ∧ o6.length + nx T e b4 ≤ o4.length + b6 := g6 rfl
      refine a_l0 rfl rfl rfl ?_
      refine a_l1 rfl rfl rfl ?_
      cases z5 with
      | false =>
        rw [if_neg (by decide)] at hx
        subst hx
        refine a_if_eq rfl (fun _ => ?_) (fun c => absurd rfl c)
        refine a_s rfl rfl ?_
        refine a_s rfl rfl ?_
        refine a_eV0 rfl lX12_180 mo_X12_emits (r_X12_emits (Cf.st C6) (by omega)) rfl rfl rfl ⟨12, _, rfl, rfl, rfl⟩ rfl ?_
        refine a_s rfl rfl ?_
        exact a_zret rfl rfl rfl (QF.yes (Cf.em (z := 2002) C6 (by decide) (by decide)))
      | true =>
        rw [if_pos rfl] at hx
        subst hx
        refine a_if_eq rfl (fun c => absurd c (by decide)) (fun _ => ?_)
        refine a_s rfl rfl ?_
        refine a_goto rfl ?_
        refine a_s rfl rfl ?_
        refine a_eV0 rfl lX12_180 mo_X12_emits (r_X12_emits (Cf.st C6) (by omega)) rfl rfl rfl ⟨12, _, rfl, rfl, rfl⟩ rfl ?_
        refine a_s rfl rfl ?_
        exact a_zret rfl rfl rfl (QF.yes (Cf.em (z := 2001) C6 (by decide) (by decide)))
  have eT4 := Cf.tt C4 hT
  refine a_l0 rfl rfl rfl ?_
  refine a_s rfl rfl ?_
  refine a_gV rfl lX12_187 mo_X12_sign (h_sign (b := b4) (c := 60) (by rw [eT4]; exact hbt) (by decide) (Cf.pp C4) (by rw [eT4]; exact Cf.nb C4)) rfl rfl rfl ⟨12, _, rfl, rfl, rfl⟩ rfl (fun v' h' hv => ?_)
  obtain ⟨rfl, J5, rfl, h5⟩ := hv
  rw [eT4] at h5 ⊢
  refine a_s1 rfl rfl rfl rfl rfl rfl ?_
  refine a_l1 rfl rfl rfl ?_
  cases c60 : sg T e b4 (nI 60) with
  | true =>
    have c60 : sg T e b4 60 = true := c60
    refine a_if_ne rfl (fun _ => ?_) (fun z => absurd (show (1 : Int32) = 0 from z) (by decide))
    rw [if_pos (show sg T e b4 (nI 60) = true from c60)] at h5
    rw [if_pos c60]
    exact key (z5 := true) (nx_lt (sg_lt c60)) rfl (Cf.rd C4 h5 rfl)
  | false =>
  have c60 : sg T e b4 60 = false := c60
  refine a_if_ne rfl (fun z => absurd rfl z) (fun _ => ?_)
  rw [if_neg (by rw [show sg T e b4 (nI 60) = false from c60]; decide)] at h5
  rw [if_neg (by rw [c60]; decide)]
  have C5 : Cf T e n0 b4 o4 I J5 b4 := Cf.rd C4 h5 (Cf.sk C4)
  have eT5 := Cf.tt C5 hT
  refine a_l0 rfl rfl rfl ?_
  refine a_s rfl rfl ?_
  refine a_gV rfl lX12_187 mo_X12_sign (h_sign (b := b4) (c := 62) (by rw [eT5]; exact hbt) (by decide) (Cf.pp C5) (by rw [eT5]; exact Cf.nb C5)) rfl rfl rfl ⟨12, _, rfl, rfl, rfl⟩ rfl (fun v' h' hv => ?_)
  obtain ⟨rfl, J7, rfl, h7⟩ := hv
  rw [eT5] at h7 ⊢
  cases c62 : sg T e b4 (nI 62) with
  | false =>
    have c62 : sg T e b4 62 = false := c62
    refine a_if_eq rfl (fun _ => ?_) (fun z => absurd rfl z)
    rw [if_neg (by rw [show sg T e b4 (nI 62) = false from c62]; decide)] at h7
    rw [if_neg (by rw [c62]; decide)]
    refine a_s rfl rfl ?_
    exact a_zret rfl rfl rfl (QF.no (Fm.tr C5.1 (Fm.mo (Rd.fm h7) sR_sY)) (Rd.be h7))
  | true =>
    have c62 : sg T e b4 62 = true := c62
    refine a_if_eq rfl (fun z => absurd z (by decide)) (fun _ => ?_)
    rw [if_pos (show sg T e b4 (nI 62) = true from c62)] at h7
    rw [if_pos c62]
    exact key (z5 := false) (nx_lt (sg_lt c62)) rfl (Cf.rd C5 h7 rfl)
theorem h_readAllOf_5 (hw : WdS S) (hbt : BtT T) (hT : I 426 = T) (hd : I 420 13 = nI 5) (h : Cf T e n0 b o I I p) (hB : o.length < b) : Sp S m_X12_readAllOf 24 0 0 [.ref 420] (hp I L w1 w2 t) (QF T e n0 (seqP T e (atomR T e 1) 20 2004 b o) I L w1 w2 t) nX := by
  have he4 := Cf.e4 h
  have g0 := atomR_gdo (T := T) (D := 1) (o := o) (Cf.le h)
  refine Sp_of ok_X12_readAllOf rfl rfl ?_
  show AW S m_X12_readAllOf 24 _ _ 0 0 0 [some (.ref 420)] [] (hp I L w1 w2 t)
  refine a_l0 rfl rfl rfl ?_
  refine a_gV rfl lX12_202 mo_X12_readAtom (h_readAtom_5 hw hbt hT hd h hB) rfl rfl rfl ⟨12, _, rfl, rfl, rfl⟩ rfl (fun v' h' hv => ?_)
  obtain ⟨rfl, J1, p1, rfl, hz1, hf1⟩ := hv
  rcases hr : (atomR T e 1) b o with ⟨z, b1, o1⟩
  rw [seqP_of hr]
  rw [hr] at hz1 hf1 g0
  cases z with
  | false =>
    refine a_if_ne rfl (fun z => absurd rfl z) (fun _ => ?_)
    refine a_s rfl rfl ?_
    rw [if_neg (by decide)]
    exact a_zret rfl rfl rfl (QF.no (hf1 rfl).1 (hf1 rfl).2)
  | true =>
  refine a_if_ne rfl (fun _ => ?_) (fun z => absurd (show (1 : Int32) = 0 from z) (by decide))
  rw [if_pos rfl]
  obtain ⟨-, -, g3⟩ := g0
  have g3 : b < b1 ∧ o1.length + b ≤ o.length + b1 := g3 rfl
  generalize hR : loopP T e (atomR T e 1) 20 2004 b1 o1 = R
  refine a_inv (n := e - b1) (fun m ls h => ls = [some (.ref 420)] ∧ ∃ J p' b' o', h = hp J L w1 w2 t ∧ Cf T e n0 b' o' I J p' ∧ o'.length < b' ∧ loopP T e (atomR T e 1) 20 2004 b' o' = R ∧ m = e - b') ⟨rfl, J1, p1, _, _, rfl, hz1 rfl, by show o1.length < b1; omega, hR, rfl⟩ ?_
  rintro m _ _ ⟨rfl, J, p', b', o', rfl, C, hB', es, hm⟩ ih
  have eT := Cf.tt C hT
  refine a_l0 rfl rfl rfl ?_
  refine a_ldcs (q := 130 + 20) rfl (hw.ld (i := 20) (by decide)) ?_
  refine a_gV rfl lX12_128 mo_X12_passes (h_passes (b := b') (k := 20) hw (by decide) (Cf.pp C) (by rw [eT]; exact Cf.nb C)) rfl rfl rfl ⟨12, _, rfl, rfl, rfl⟩ rfl (fun v' h' hv => ?_)
  obtain ⟨rfl, J2, rfl, h2⟩ := hv
  rw [eT] at h2 ⊢
  cases cw : isWd T e b' 20 with
  | false =>
    refine a_if_eq rfl (fun _ => ?_) (fun z => absurd rfl z)
    rw [if_neg (by rw [cw]; decide)] at h2
    refine a_s rfl rfl ?_
    rw [← es, loopP_f cw]
    exact a_zret rfl rfl rfl (QF.yes (Cf.rd C h2 (Cf.sk C)))
  | true =>
    refine a_if_eq rfl (fun z => absurd z (by decide)) (fun _ => ?_)
    rw [if_pos cw] at h2
    have n2 := nx_lt (T := T) (isWd_lt cw)
    have C2 : Cf T e n0 (nx T e b') o' I J2 (en T e b') := Cf.rd C h2 rfl
    have n2e := Cf.le C2
    have g4 := atomR_gdo (T := T) (D := 1) (o := o') n2e
    refine a_l0 rfl rfl rfl ?_
    refine a_gV rfl lX12_202 mo_X12_readAtom (h_readAtom_5 hw hbt (Cf.tt C2 hT) (Cf.d C2 hd) (Cf.rf C2) (by omega)) rfl rfl rfl ⟨12, _, rfl, rfl, rfl⟩ rfl (fun v' h' hv => ?_)
    obtain ⟨rfl, J3, p3, rfl, hz3, hf3⟩ := hv
    have el := fun g => loopP_t (op := 2004) (o := o') (item := atomR T e 1) cw g
    have en' := loopP_n (op := 2004) (o := o') (item := atomR T e 1) cw
    rcases hr2 : (atomR T e 1) (nx T e b') o' with ⟨z2, b2, o2⟩
    rw [hr2] at hz3 hf3 g4 el en'
    cases z2 with
    | false =>
      refine a_if_ne rfl (fun z => absurd rfl z) (fun _ => ?_)
      refine a_s rfl rfl ?_
      rw [← es, en' Bool.false_ne_true]
      exact a_zret rfl rfl rfl (Cf.no C2 (hf3 rfl).1 (hf3 rfl).2)
    | true =>
      refine a_if_ne rfl (fun _ => ?_) (fun z => absurd (show (1 : Int32) = 0 from z) (by decide))
      have C3 : Cf T e n0 b2 o2 I J3 p3 := Cf.cc C2 (hz3 rfl)
      have c3e := Cf.le C3
      obtain ⟨-, -, g5⟩ := g4
      have g5 : nx T e b' < b2 ∧ o2.length + nx T e b' ≤ o'.length + b2 := g5 rfl
      have es2 : loopP T e (atomR T e 1) 20 2004 b2 (2004 :: o2) = R := (el (by show b' < b2; omega) rfl).symm.trans es
      refine a_l0 rfl rfl rfl ?_
      refine a_s rfl rfl ?_
      refine a_s rfl rfl ?_
      refine a_eV0 rfl lX12_180 mo_X12_emits (r_X12_emits (Cf.st C3) (by omega)) rfl rfl rfl ⟨12, _, rfl, rfl, rfl⟩ rfl ?_
      refine a_goto rfl ?_
      exact ih (e - b2) _ _ (by omega) ⟨rfl, _, p3, b2, _, rfl, Cf.em (z := 2004) C3 (by decide) (by decide), by show o2.length + 1 < b2; omega, es2, rfl⟩
theorem h_readCond_5 (hw : WdS S) (hbt : BtT T) (hT : I 426 = T) (hd : I 420 13 = nI 5) (h : Cf T e n0 b o I I p) (hB : o.length < b) : Sp S m_X12_readCond 25 0 0 [.ref 420] (hp I L w1 w2 t) (QF T e n0 (seqP T e (seqP T e (atomR T e 1) 20 2004) 19 2005 b o) I L w1 w2 t) nX := by
  have he4 := Cf.e4 h
  have g0 := seqA_gd (T := T) (D := 1) (o := o) (Cf.le h)
  refine Sp_of ok_X12_readCond rfl rfl ?_
  show AW S m_X12_readCond 25 _ _ 0 0 0 [some (.ref 420)] [] (hp I L w1 w2 t)
  refine a_l0 rfl rfl rfl ?_
  refine a_gV rfl lX12_213 mo_X12_readAllOf (h_readAllOf_5 hw hbt hT hd h hB) rfl rfl rfl ⟨12, _, rfl, rfl, rfl⟩ rfl (fun v' h' hv => ?_)
  obtain ⟨rfl, J1, p1, rfl, hz1, hf1⟩ := hv
  rcases hr : (seqP T e (atomR T e 1) 20 2004) b o with ⟨z, b1, o1⟩
  rw [seqP_of hr]
  rw [hr] at hz1 hf1 g0
  cases z with
  | false =>
    refine a_if_ne rfl (fun z => absurd rfl z) (fun _ => ?_)
    refine a_s rfl rfl ?_
    rw [if_neg (by decide)]
    exact a_zret rfl rfl rfl (QF.no (hf1 rfl).1 (hf1 rfl).2)
  | true =>
  refine a_if_ne rfl (fun _ => ?_) (fun z => absurd (show (1 : Int32) = 0 from z) (by decide))
  rw [if_pos rfl]
  obtain ⟨-, -, g3⟩ := g0
  have g3 : b < b1 ∧ o1.length + b ≤ o.length + b1 := g3 rfl
  generalize hR : loopP T e (seqP T e (atomR T e 1) 20 2004) 19 2005 b1 o1 = R
  refine a_inv (n := e - b1) (fun m ls h => ls = [some (.ref 420)] ∧ ∃ J p' b' o', h = hp J L w1 w2 t ∧ Cf T e n0 b' o' I J p' ∧ o'.length < b' ∧ loopP T e (seqP T e (atomR T e 1) 20 2004) 19 2005 b' o' = R ∧ m = e - b') ⟨rfl, J1, p1, _, _, rfl, hz1 rfl, by show o1.length < b1; omega, hR, rfl⟩ ?_
  rintro m _ _ ⟨rfl, J, p', b', o', rfl, C, hB', es, hm⟩ ih
  have eT := Cf.tt C hT
  refine a_l0 rfl rfl rfl ?_
  refine a_ldcs (q := 130 + 19) rfl (hw.ld (i := 19) (by decide)) ?_
  refine a_gV rfl lX12_128 mo_X12_passes (h_passes (b := b') (k := 19) hw (by decide) (Cf.pp C) (by rw [eT]; exact Cf.nb C)) rfl rfl rfl ⟨12, _, rfl, rfl, rfl⟩ rfl (fun v' h' hv => ?_)
  obtain ⟨rfl, J2, rfl, h2⟩ := hv
  rw [eT] at h2 ⊢
  cases cw : isWd T e b' 19 with
  | false =>
    refine a_if_eq rfl (fun _ => ?_) (fun z => absurd rfl z)
    rw [if_neg (by rw [cw]; decide)] at h2
    refine a_s rfl rfl ?_
    rw [← es, loopP_f cw]
    exact a_zret rfl rfl rfl (QF.yes (Cf.rd C h2 (Cf.sk C)))
  | true =>
    refine a_if_eq rfl (fun z => absurd z (by decide)) (fun _ => ?_)
    rw [if_pos cw] at h2
    have n2 := nx_lt (T := T) (isWd_lt cw)
    have C2 : Cf T e n0 (nx T e b') o' I J2 (en T e b') := Cf.rd C h2 rfl
    have n2e := Cf.le C2
    have g4 := seqA_gd (T := T) (D := 1) (o := o') n2e
    refine a_l0 rfl rfl rfl ?_
    refine a_gV rfl lX12_213 mo_X12_readAllOf (h_readAllOf_5 hw hbt (Cf.tt C2 hT) (Cf.d C2 hd) (Cf.rf C2) (by omega)) rfl rfl rfl ⟨12, _, rfl, rfl, rfl⟩ rfl (fun v' h' hv => ?_)
    obtain ⟨rfl, J3, p3, rfl, hz3, hf3⟩ := hv
    have el := fun g => loopP_t (op := 2005) (o := o') (item := seqP T e (atomR T e 1) 20 2004) cw g
    have en' := loopP_n (op := 2005) (o := o') (item := seqP T e (atomR T e 1) 20 2004) cw
    rcases hr2 : (seqP T e (atomR T e 1) 20 2004) (nx T e b') o' with ⟨z2, b2, o2⟩
    rw [hr2] at hz3 hf3 g4 el en'
    cases z2 with
    | false =>
      refine a_if_ne rfl (fun z => absurd rfl z) (fun _ => ?_)
      refine a_s rfl rfl ?_
      rw [← es, en' Bool.false_ne_true]
      exact a_zret rfl rfl rfl (Cf.no C2 (hf3 rfl).1 (hf3 rfl).2)
    | true =>
      refine a_if_ne rfl (fun _ => ?_) (fun z => absurd (show (1 : Int32) = 0 from z) (by decide))
      have C3 : Cf T e n0 b2 o2 I J3 p3 := Cf.cc C2 (hz3 rfl)
      have c3e := Cf.le C3
      obtain ⟨-, -, g5⟩ := g4
      have g5 : nx T e b' < b2 ∧ o2.length + nx T e b' ≤ o'.length + b2 := g5 rfl
      have es2 : loopP T e (seqP T e (atomR T e 1) 20 2004) 19 2005 b2 (2005 :: o2) = R := (el (by show b' < b2; omega) rfl).symm.trans es
      refine a_l0 rfl rfl rfl ?_
      refine a_s rfl rfl ?_
      refine a_s rfl rfl ?_
      refine a_eV0 rfl lX12_180 mo_X12_emits (r_X12_emits (Cf.st C3) (by omega)) rfl rfl rfl ⟨12, _, rfl, rfl, rfl⟩ rfl ?_
      refine a_goto rfl ?_
      exact ih (e - b2) _ _ (by omega) ⟨rfl, _, p3, b2, _, rfl, Cf.em (z := 2005) C3 (by decide) (by decide), by show o2.length + 1 < b2; omega, es2, rfl⟩
theorem h_readAtom_4 (hw : WdS S) (hbt : BtT T) (hT : I 426 = T) (hd : I 420 13 = nI 4) (h : Cf T e n0 b o I I p) (hB : o.length < b) : Sp S m_X12_readAtom 26 0 0 [.ref 420] (hp I L w1 w2 t) (QF T e n0 (atomR T e 2 b o) I L w1 w2 t) nX := by
  have he4 := Cf.e4 h
  have hbe := Cf.le h
  refine Sp_of ok_X12_readAtom rfl rfl ?_
  show AW S m_X12_readAtom 26 _ _ 0 0 0 [some (.ref 420), none] [] (hp I L w1 w2 t)
  refine a_l0 rfl rfl rfl ?_
  refine a_s rfl rfl ?_
  refine a_gV rfl lX12_187 mo_X12_sign (h_sign (b := b) (c := 40) (by rw [hT]; exact hbt) (by decide) (Cf.pp h) (by rw [hT]; exact Cf.nb h)) rfl rfl rfl ⟨12, _, rfl, rfl, rfl⟩ rfl (fun v' h' hv => ?_)
  obtain ⟨rfl, J1, rfl, h1⟩ := hv
  rw [hT] at h1 ⊢
  cases c40 : sg T e b (nI 40) with
  | true =>
    have c40 : sg T e b 40 = true := c40
    refine a_if_eq rfl (fun z => absurd z (by decide)) (fun _ => ?_)
    rw [if_pos (show sg T e b (nI 40) = true from c40)] at h1
    have n1 := nx_lt (T := T) (sg_lt c40)
    have C1 : Cf T e n0 (nx T e b) o I J1 (en T e b) := Cf.rd h h1 rfl
    refine a_l0 rfl rfl rfl ?_
    refine a_geti rfl gfX12_194_12 rfl ?_
    refine a_top (y := nI 4) (Cf.d C1 hd) ?_
    refine a_s rfl rfl ?_
    refine a_ic_ne rfl (fun _ => ?_) (fun c => absurd c (by decide))
    refine a_l0 rfl rfl rfl ?_
    refine a_s rfl rfl ?_
    refine a_geti rfl gfX12_194_12 rfl ?_
    refine a_top (y := nI 4) (Cf.d C1 hd) ?_
    refine a_s rfl rfl ?_
    refine a_s rfl rfl ?_
    refine a_top (y := nI 5) (rfl) ?_
    refine a_puti rfl pfX12_194_12 rfl ?_
    refine a_l0 rfl rfl rfl ?_
    have g4 := cndP_gd (T := T) (fun b o h => atomR_gd (T := T) 1 b o h) (o := o) (Cf.le C1)
    refine a_gV rfl lX12_197 mo_X12_readCond (h_readCond_5 hw hbt ((up2_row (by decide)).trans (Cf.tt C1 hT)) up2_at (Cf.up13 C1) (by omega)) rfl rfl rfl ⟨12, _, rfl, rfl, rfl⟩ rfl (fun v' h' hv => ?_)
    obtain ⟨rfl, J9, p9, rfl, hz9, hf9⟩ := hv
    rw [show seqP T e (seqP T e (atomR T e 1) 20 2004) 19 2005 = cndP T e (atomR T e 1) from rfl] at hz9 hf9 ⊢
    rcases hr9 : cndP T e (atomR T e 1) (nx T e b) o with ⟨z9, b9, o9⟩
    rw [hr9] at hz9 hf9 g4
    rw [atomR_p c40 hr9]
    cases z9 with
    | false =>
      refine a_if_ne rfl (fun z => absurd rfl z) (fun _ => ?_)
      refine a_s rfl rfl ?_
      rw [if_neg (by decide)]
      exact a_zret rfl rfl rfl (QF.no (Fm.tr C1.1 (Fm.tr (Fm.up Fm.rf rfl) (hf9 rfl).1)) (hf9 rfl).2)
    | true =>
      refine a_if_ne rfl (fun _ => ?_) (fun z => absurd (show (1 : Int32) = 0 from z) (by decide))
      rw [if_pos rfl]
      have D9 : Cf T e n0 b9 o9 (up2 J1 420 13 (nI 5)) J9 p9 := hz9 rfl
      refine a_l0 rfl rfl rfl ?_
      refine a_s rfl rfl ?_
      refine a_geti rfl gfX12_194_12 rfl ?_
      refine a_top (y := nI 5) (D9.2.1.trans up2_at) ?_
      refine a_s rfl rfl ?_
      refine a_s rfl rfl ?_
      refine a_top (y := nI 4) (rfl) ?_
      refine a_puti rfl pfX12_194_12 rfl ?_
      have C9 := Cf.deep C1 hd D9
      have eT9 := Cf.tt C9 hT
      refine a_l0 rfl rfl rfl ?_
      refine a_s rfl rfl ?_
      refine a_gV rfl lX12_187 mo_X12_sign (h_sign (b := b9) (c := 41) (by rw [eT9]; exact hbt) (by decide) (Cf.pp C9) (by rw [eT9]; exact Cf.nb C9)) rfl rfl rfl ⟨12, _, rfl, rfl, rfl⟩ rfl (fun v' h' hv => ?_)
      obtain ⟨rfl, J3, rfl, h3⟩ := hv
      rw [eT9] at h3 ⊢
      cases c41 : sg T e b9 (nI 41) with
      | false =>
        have c41 : sg T e b9 41 = false := c41
        rw [if_neg (by rw [show sg T e b9 (nI 41) = false from c41]; decide)] at h3
        rw [if_neg (by rw [c41]; decide)]
        exact a_zret rfl rfl rfl (QF.no (Fm.tr C9.1 (Fm.mo (Rd.fm h3) sR_sY)) (Rd.be h3))
      | true =>
        have c41 : sg T e b9 41 = true := c41
        rw [if_pos (show sg T e b9 (nI 41) = true from c41)] at h3
        rw [if_pos c41]
        exact a_zret rfl rfl rfl (QF.yes (Cf.rd C9 h3 rfl))
  | false =>
  have c40 : sg T e b 40 = false := c40
  refine a_if_eq rfl (fun _ => ?_) (fun z => absurd rfl z)
  rw [if_neg (by rw [show sg T e b (nI 40) = false from c40]; decide)] at h1
  have C0 : Cf T e n0 b o I J1 b := Cf.rd h h1 (Cf.sk h)
  have eT0 := Cf.tt C0 hT
  refine a_l0 rfl rfl rfl ?_
  refine a_ldcs (q := 130 + 21) rfl (hw.ld (i := 21) (by decide)) ?_
  refine a_gV rfl lX12_128 mo_X12_passes (h_passes (b := b) (k := 21) hw (by decide) (Cf.pp C0) (by rw [eT0]; exact Cf.nb C0)) rfl rfl rfl ⟨12, _, rfl, rfl, rfl⟩ rfl (fun v' h' hv => ?_)
  obtain ⟨rfl, J2, rfl, h2⟩ := hv
  rw [eT0] at h2 ⊢
  cases c21 : isWd T e b 21 with
  | true =>
    refine a_if_eq rfl (fun z => absurd z (by decide)) (fun _ => ?_)
    rw [if_pos c21] at h2
    have n1 := nx_lt (T := T) (isWd_lt c21)
    have C2 : Cf T e n0 (nx T e b) o I J2 (en T e b) := Cf.rd C0 h2 rfl
    refine a_l0 rfl rfl rfl ?_
    refine a_geti rfl gfX12_194_12 rfl ?_
    refine a_top (y := nI 4) (Cf.d C2 hd) ?_
    refine a_s rfl rfl ?_
    refine a_ic_ne rfl (fun _ => ?_) (fun c => absurd c (by decide))
    refine a_l0 rfl rfl rfl ?_
    refine a_s rfl rfl ?_
    refine a_geti rfl gfX12_194_12 rfl ?_
    refine a_top (y := nI 4) (Cf.d C2 hd) ?_
    refine a_s rfl rfl ?_
    refine a_s rfl rfl ?_
    refine a_top (y := nI 5) (rfl) ?_
    refine a_puti rfl pfX12_194_12 rfl ?_
    refine a_l0 rfl rfl rfl ?_
    have g4 := atomR_gdo (T := T) (D := 1) (o := o) (Cf.le C2)
    refine a_gV rfl lX12_202 mo_X12_readAtom (h_readAtom_5 hw hbt ((up2_row (by decide)).trans (Cf.tt C2 hT)) up2_at (Cf.up13 C2) (by omega)) rfl rfl rfl ⟨12, _, rfl, rfl, rfl⟩ rfl (fun v' h' hv => ?_)
    obtain ⟨rfl, J9, p9, rfl, hz9, hf9⟩ := hv
    rcases hr9 : atomR T e 1 (nx T e b) o with ⟨z9, b9, o9⟩
    rw [hr9] at hz9 hf9 g4
    rw [atomR_n c40 c21 hr9]
    cases z9 with
    | false =>
      refine a_if_ne rfl (fun z => absurd rfl z) (fun _ => ?_)
      refine a_s rfl rfl ?_
      rw [if_neg (by decide)]
      exact a_zret rfl rfl rfl (QF.no (Fm.tr C2.1 (Fm.tr (Fm.up Fm.rf rfl) (hf9 rfl).1)) (hf9 rfl).2)
    | true =>
      refine a_if_ne rfl (fun _ => ?_) (fun z => absurd (show (1 : Int32) = 0 from z) (by decide))
      rw [if_pos rfl]
      have D9 : Cf T e n0 b9 o9 (up2 J2 420 13 (nI 5)) J9 p9 := hz9 rfl
      obtain ⟨-, -, g5⟩ := g4
      have g5 : nx T e b < b9 ∧ o9.length + nx T e b ≤ o.length + b9 := g5 rfl
      have c9e := Cf.le D9
      refine a_l0 rfl rfl rfl ?_
      refine a_s rfl rfl ?_
      refine a_geti rfl gfX12_194_12 rfl ?_
      refine a_top (y := nI 5) (D9.2.1.trans up2_at) ?_
      refine a_s rfl rfl ?_
      refine a_s rfl rfl ?_
      refine a_top (y := nI 4) (rfl) ?_
      refine a_puti rfl pfX12_194_12 rfl ?_
      have C9 := Cf.deep C2 hd D9
      refine a_l0 rfl rfl rfl ?_
      refine a_s rfl rfl ?_
      refine a_s rfl rfl ?_
      refine a_eV0 rfl lX12_180 mo_X12_emits (r_X12_emits (Cf.st C9) (by omega)) rfl rfl rfl ⟨12, _, rfl, rfl, rfl⟩ rfl ?_
      refine a_s rfl rfl ?_
      exact a_zret rfl rfl rfl (QF.yes (Cf.em (z := 2003) C9 (by decide) (by decide)))
  | false =>
  refine a_if_eq rfl (fun _ => ?_) (fun z => absurd rfl z)
  rw [if_neg (by rw [c21]; decide)] at h2
  have C2 : Cf T e n0 b o I J2 b := Cf.rd C0 h2 (Cf.sk C0)
  rw [atomR_b c40 c21]
  refine a_l0 rfl rfl rfl ?_
  refine a_gV rfl lX12_205 mo_X12_readTag (h_readTag hw (Cf.tt C2 hT) (Cf.rf C2) hB) rfl rfl rfl ⟨12, _, rfl, rfl, rfl⟩ rfl (fun v' h' hv => ?_)
  obtain ⟨z3, x3, J3, p3, rfl, rfl, ht3, hf3⟩ := hv
  cases z3 with
  | true =>
    refine a_if_eq rfl (fun z => absurd z (by decide)) (fun _ => ?_)
    refine a_s rfl rfl ?_
    obtain ⟨hx, D3⟩ := ht3 rfl
    rcases hx with ⟨c22, rfl⟩ | ⟨c22, c23, rfl⟩
    · rw [show baseP T e b o = (true, nx T e b, 1007 :: o) from if_pos c22]
      exact a_zret rfl rfl rfl (QF.yes (Cf.cc C2 D3))
    · rw [show baseP T e b o = (true, nx T e b, 1008 :: o) from (if_neg (by rw [c22]; decide)).trans (if_pos c23)]
      exact a_zret rfl rfl rfl (QF.yes (Cf.cc C2 D3))
  | false =>
  refine a_if_eq rfl (fun _ => ?_) (fun z => absurd rfl z)
  obtain ⟨⟨c22, c23⟩, D3⟩ := hf3 rfl
  have C3 := Cf.cc C2 D3
  have g4 := sumP_gd (T := T) (o := o) hbe
  refine a_l0 rfl rfl rfl ?_
  refine a_gV rfl lX12_208 mo_X12_readSum (h_readSum hw hbt (Cf.tt C3 hT) (Cf.rf C3) hB) rfl rfl rfl ⟨12, _, rfl, rfl, rfl⟩ rfl (fun v' h' hv => ?_)
  obtain ⟨rfl, J4, p4, rfl, hz4, hf4⟩ := hv
  rcases hr4 : sumP T e b o with ⟨z4, b4, o4⟩
  rw [baseP_s c22 c23 hr4]
  rw [hr4] at hz4 hf4 g4
  cases z4 with
  | false =>
    refine a_if_ne rfl (fun z => absurd rfl z) (fun _ => ?_)
    refine a_s rfl rfl ?_
    rw [if_neg (by decide)]
    exact a_zret rfl rfl rfl (Cf.no C3 (hf4 rfl).1 (hf4 rfl).2)
  | true =>
  refine a_if_ne rfl (fun _ => ?_) (fun z => absurd (show (1 : Int32) = 0 from z) (by decide))
  rw [if_pos rfl]
  have C4 : Cf T e n0 b4 o4 I J4 p4 := Cf.cc C3 (hz4 rfl)
  obtain ⟨-, -, g4⟩ := g4
  have g4 : b < b4 ∧ o4.length + b ≤ o.length + b4 := g4 rfl
  have key : ∀ {z5 : Bool} {x : Int32} {p' : Nat} {J : Nat → Nat → Int32}, b4 < nx T e b4 → x = (if z5 = true then 2001 else 2002) → Cf T e n0 (nx T e b4) o4 I J p' → AW S m_X12_readAtom 26 (QF T e n0 (cmpP T e x (nx T e b4) o4) I L w1 w2 t) nX 0 0 152 [some (.ref 420), some (.int (bI z5))] [] (hp J L w1 w2 t) := by
    intro z5 x p' J n4 hx C
    have g6 := sumP_gd (T := T) (o := o4) (Cf.le C)
    refine a_l0 rfl rfl rfl ?_
    refine a_gV rfl lX12_208 mo_X12_readSum (h_readSum hw hbt (Cf.tt C hT) (Cf.rf C) (by omega)) rfl rfl rfl ⟨12, _, rfl, rfl, rfl⟩ rfl (fun v' h' hv => ?_)
    obtain ⟨rfl, J6, p6, rfl, hz6, hf6⟩ := hv
    rcases hr6 : sumP T e (nx T e b4) o4 with ⟨z6, b6, o6⟩
    rw [hr6] at hz6 hf6 g6
    cases z6 with
    | false =>
      refine a_if_ne rfl (fun z => absurd rfl z) (fun _ => ?_)
      refine a_s rfl rfl ?_
      rw [cmpP_f hr6]
      exact a_zret rfl rfl rfl (Cf.no C (hf6 rfl).1 (hf6 rfl).2)
    | true =>
      refine a_if_ne rfl (fun _ => ?_) (fun z => absurd (show (1 : Int32) = 0 from z) (by decide))
      rw [cmpP_t hr6]
      have C6 : Cf T e n0 b6 o6 I J6 p6 := Cf.cc C (hz6 rfl)
      have c6e := Cf.le C6
      obtain ⟨-, -, g6⟩ := g6
      have g6 : nx T e b4 < b6 ∧ o6.length + nx T e b4 ≤ o4.length + b6 := g6 rfl
      refine a_l0 rfl rfl rfl ?_
      refine a_l1 rfl rfl rfl ?_
      cases z5 with
      | false =>
        rw [if_neg (by decide)] at hx
        subst hx
        refine a_if_eq rfl (fun _ => ?_) (fun c => absurd rfl c)
        refine a_s rfl rfl ?_
        refine a_s rfl rfl ?_
        refine a_eV0 rfl lX12_180 mo_X12_emits (r_X12_emits (Cf.st C6) (by omega)) rfl rfl rfl ⟨12, _, rfl, rfl, rfl⟩ rfl ?_
        refine a_s rfl rfl ?_
        exact a_zret rfl rfl rfl (QF.yes (Cf.em (z := 2002) C6 (by decide) (by decide)))
      | true =>
        rw [if_pos rfl] at hx
        subst hx
        refine a_if_eq rfl (fun c => absurd c (by decide)) (fun _ => ?_)
        refine a_s rfl rfl ?_
        refine a_goto rfl ?_
        refine a_s rfl rfl ?_
        refine a_eV0 rfl lX12_180 mo_X12_emits (r_X12_emits (Cf.st C6) (by omega)) rfl rfl rfl ⟨12, _, rfl, rfl, rfl⟩ rfl ?_
        refine a_s rfl rfl ?_
        exact a_zret rfl rfl rfl (QF.yes (Cf.em (z := 2001) C6 (by decide) (by decide)))
  have eT4 := Cf.tt C4 hT
  refine a_l0 rfl rfl rfl ?_
  refine a_s rfl rfl ?_
  refine a_gV rfl lX12_187 mo_X12_sign (h_sign (b := b4) (c := 60) (by rw [eT4]; exact hbt) (by decide) (Cf.pp C4) (by rw [eT4]; exact Cf.nb C4)) rfl rfl rfl ⟨12, _, rfl, rfl, rfl⟩ rfl (fun v' h' hv => ?_)
  obtain ⟨rfl, J5, rfl, h5⟩ := hv
  rw [eT4] at h5 ⊢
  refine a_s1 rfl rfl rfl rfl rfl rfl ?_
  refine a_l1 rfl rfl rfl ?_
  cases c60 : sg T e b4 (nI 60) with
  | true =>
    have c60 : sg T e b4 60 = true := c60
    refine a_if_ne rfl (fun _ => ?_) (fun z => absurd (show (1 : Int32) = 0 from z) (by decide))
    rw [if_pos (show sg T e b4 (nI 60) = true from c60)] at h5
    rw [if_pos c60]
    exact key (z5 := true) (nx_lt (sg_lt c60)) rfl (Cf.rd C4 h5 rfl)
  | false =>
  have c60 : sg T e b4 60 = false := c60
  refine a_if_ne rfl (fun z => absurd rfl z) (fun _ => ?_)
  rw [if_neg (by rw [show sg T e b4 (nI 60) = false from c60]; decide)] at h5
  rw [if_neg (by rw [c60]; decide)]
  have C5 : Cf T e n0 b4 o4 I J5 b4 := Cf.rd C4 h5 (Cf.sk C4)
  have eT5 := Cf.tt C5 hT
  refine a_l0 rfl rfl rfl ?_
  refine a_s rfl rfl ?_
  refine a_gV rfl lX12_187 mo_X12_sign (h_sign (b := b4) (c := 62) (by rw [eT5]; exact hbt) (by decide) (Cf.pp C5) (by rw [eT5]; exact Cf.nb C5)) rfl rfl rfl ⟨12, _, rfl, rfl, rfl⟩ rfl (fun v' h' hv => ?_)
  obtain ⟨rfl, J7, rfl, h7⟩ := hv
  rw [eT5] at h7 ⊢
  cases c62 : sg T e b4 (nI 62) with
  | false =>
    have c62 : sg T e b4 62 = false := c62
    refine a_if_eq rfl (fun _ => ?_) (fun z => absurd rfl z)
    rw [if_neg (by rw [show sg T e b4 (nI 62) = false from c62]; decide)] at h7
    rw [if_neg (by rw [c62]; decide)]
    refine a_s rfl rfl ?_
    exact a_zret rfl rfl rfl (QF.no (Fm.tr C5.1 (Fm.mo (Rd.fm h7) sR_sY)) (Rd.be h7))
  | true =>
    have c62 : sg T e b4 62 = true := c62
    refine a_if_eq rfl (fun z => absurd z (by decide)) (fun _ => ?_)
    rw [if_pos (show sg T e b4 (nI 62) = true from c62)] at h7
    rw [if_pos c62]
    exact key (z5 := false) (nx_lt (sg_lt c62)) rfl (Cf.rd C5 h7 rfl)
theorem h_readAllOf_4 (hw : WdS S) (hbt : BtT T) (hT : I 426 = T) (hd : I 420 13 = nI 4) (h : Cf T e n0 b o I I p) (hB : o.length < b) : Sp S m_X12_readAllOf 27 0 0 [.ref 420] (hp I L w1 w2 t) (QF T e n0 (seqP T e (atomR T e 2) 20 2004 b o) I L w1 w2 t) nX := by
  have he4 := Cf.e4 h
  have g0 := atomR_gdo (T := T) (D := 2) (o := o) (Cf.le h)
  refine Sp_of ok_X12_readAllOf rfl rfl ?_
  show AW S m_X12_readAllOf 27 _ _ 0 0 0 [some (.ref 420)] [] (hp I L w1 w2 t)
  refine a_l0 rfl rfl rfl ?_
  refine a_gV rfl lX12_202 mo_X12_readAtom (h_readAtom_4 hw hbt hT hd h hB) rfl rfl rfl ⟨12, _, rfl, rfl, rfl⟩ rfl (fun v' h' hv => ?_)
  obtain ⟨rfl, J1, p1, rfl, hz1, hf1⟩ := hv
  rcases hr : (atomR T e 2) b o with ⟨z, b1, o1⟩
  rw [seqP_of hr]
  rw [hr] at hz1 hf1 g0
  cases z with
  | false =>
    refine a_if_ne rfl (fun z => absurd rfl z) (fun _ => ?_)
    refine a_s rfl rfl ?_
    rw [if_neg (by decide)]
    exact a_zret rfl rfl rfl (QF.no (hf1 rfl).1 (hf1 rfl).2)
  | true =>
  refine a_if_ne rfl (fun _ => ?_) (fun z => absurd (show (1 : Int32) = 0 from z) (by decide))
  rw [if_pos rfl]
  obtain ⟨-, -, g3⟩ := g0
  have g3 : b < b1 ∧ o1.length + b ≤ o.length + b1 := g3 rfl
  generalize hR : loopP T e (atomR T e 2) 20 2004 b1 o1 = R
  refine a_inv (n := e - b1) (fun m ls h => ls = [some (.ref 420)] ∧ ∃ J p' b' o', h = hp J L w1 w2 t ∧ Cf T e n0 b' o' I J p' ∧ o'.length < b' ∧ loopP T e (atomR T e 2) 20 2004 b' o' = R ∧ m = e - b') ⟨rfl, J1, p1, _, _, rfl, hz1 rfl, by show o1.length < b1; omega, hR, rfl⟩ ?_
  rintro m _ _ ⟨rfl, J, p', b', o', rfl, C, hB', es, hm⟩ ih
  have eT := Cf.tt C hT
  refine a_l0 rfl rfl rfl ?_
  refine a_ldcs (q := 130 + 20) rfl (hw.ld (i := 20) (by decide)) ?_
  refine a_gV rfl lX12_128 mo_X12_passes (h_passes (b := b') (k := 20) hw (by decide) (Cf.pp C) (by rw [eT]; exact Cf.nb C)) rfl rfl rfl ⟨12, _, rfl, rfl, rfl⟩ rfl (fun v' h' hv => ?_)
  obtain ⟨rfl, J2, rfl, h2⟩ := hv
  rw [eT] at h2 ⊢
  cases cw : isWd T e b' 20 with
  | false =>
    refine a_if_eq rfl (fun _ => ?_) (fun z => absurd rfl z)
    rw [if_neg (by rw [cw]; decide)] at h2
    refine a_s rfl rfl ?_
    rw [← es, loopP_f cw]
    exact a_zret rfl rfl rfl (QF.yes (Cf.rd C h2 (Cf.sk C)))
  | true =>
    refine a_if_eq rfl (fun z => absurd z (by decide)) (fun _ => ?_)
    rw [if_pos cw] at h2
    have n2 := nx_lt (T := T) (isWd_lt cw)
    have C2 : Cf T e n0 (nx T e b') o' I J2 (en T e b') := Cf.rd C h2 rfl
    have n2e := Cf.le C2
    have g4 := atomR_gdo (T := T) (D := 2) (o := o') n2e
    refine a_l0 rfl rfl rfl ?_
    refine a_gV rfl lX12_202 mo_X12_readAtom (h_readAtom_4 hw hbt (Cf.tt C2 hT) (Cf.d C2 hd) (Cf.rf C2) (by omega)) rfl rfl rfl ⟨12, _, rfl, rfl, rfl⟩ rfl (fun v' h' hv => ?_)
    obtain ⟨rfl, J3, p3, rfl, hz3, hf3⟩ := hv
    have el := fun g => loopP_t (op := 2004) (o := o') (item := atomR T e 2) cw g
    have en' := loopP_n (op := 2004) (o := o') (item := atomR T e 2) cw
    rcases hr2 : (atomR T e 2) (nx T e b') o' with ⟨z2, b2, o2⟩
    rw [hr2] at hz3 hf3 g4 el en'
    cases z2 with
    | false =>
      refine a_if_ne rfl (fun z => absurd rfl z) (fun _ => ?_)
      refine a_s rfl rfl ?_
      rw [← es, en' Bool.false_ne_true]
      exact a_zret rfl rfl rfl (Cf.no C2 (hf3 rfl).1 (hf3 rfl).2)
    | true =>
      refine a_if_ne rfl (fun _ => ?_) (fun z => absurd (show (1 : Int32) = 0 from z) (by decide))
      have C3 : Cf T e n0 b2 o2 I J3 p3 := Cf.cc C2 (hz3 rfl)
      have c3e := Cf.le C3
      obtain ⟨-, -, g5⟩ := g4
      have g5 : nx T e b' < b2 ∧ o2.length + nx T e b' ≤ o'.length + b2 := g5 rfl
      have es2 : loopP T e (atomR T e 2) 20 2004 b2 (2004 :: o2) = R := (el (by show b' < b2; omega) rfl).symm.trans es
      refine a_l0 rfl rfl rfl ?_
      refine a_s rfl rfl ?_
      refine a_s rfl rfl ?_
      refine a_eV0 rfl lX12_180 mo_X12_emits (r_X12_emits (Cf.st C3) (by omega)) rfl rfl rfl ⟨12, _, rfl, rfl, rfl⟩ rfl ?_
      refine a_goto rfl ?_
      exact ih (e - b2) _ _ (by omega) ⟨rfl, _, p3, b2, _, rfl, Cf.em (z := 2004) C3 (by decide) (by decide), by show o2.length + 1 < b2; omega, es2, rfl⟩
theorem h_readCond_4 (hw : WdS S) (hbt : BtT T) (hT : I 426 = T) (hd : I 420 13 = nI 4) (h : Cf T e n0 b o I I p) (hB : o.length < b) : Sp S m_X12_readCond 28 0 0 [.ref 420] (hp I L w1 w2 t) (QF T e n0 (seqP T e (seqP T e (atomR T e 2) 20 2004) 19 2005 b o) I L w1 w2 t) nX := by
  have he4 := Cf.e4 h
  have g0 := seqA_gd (T := T) (D := 2) (o := o) (Cf.le h)
  refine Sp_of ok_X12_readCond rfl rfl ?_
  show AW S m_X12_readCond 28 _ _ 0 0 0 [some (.ref 420)] [] (hp I L w1 w2 t)
  refine a_l0 rfl rfl rfl ?_
  refine a_gV rfl lX12_213 mo_X12_readAllOf (h_readAllOf_4 hw hbt hT hd h hB) rfl rfl rfl ⟨12, _, rfl, rfl, rfl⟩ rfl (fun v' h' hv => ?_)
  obtain ⟨rfl, J1, p1, rfl, hz1, hf1⟩ := hv
  rcases hr : (seqP T e (atomR T e 2) 20 2004) b o with ⟨z, b1, o1⟩
  rw [seqP_of hr]
  rw [hr] at hz1 hf1 g0
  cases z with
  | false =>
    refine a_if_ne rfl (fun z => absurd rfl z) (fun _ => ?_)
    refine a_s rfl rfl ?_
    rw [if_neg (by decide)]
    exact a_zret rfl rfl rfl (QF.no (hf1 rfl).1 (hf1 rfl).2)
  | true =>
  refine a_if_ne rfl (fun _ => ?_) (fun z => absurd (show (1 : Int32) = 0 from z) (by decide))
  rw [if_pos rfl]
  obtain ⟨-, -, g3⟩ := g0
  have g3 : b < b1 ∧ o1.length + b ≤ o.length + b1 := g3 rfl
  generalize hR : loopP T e (seqP T e (atomR T e 2) 20 2004) 19 2005 b1 o1 = R
  refine a_inv (n := e - b1) (fun m ls h => ls = [some (.ref 420)] ∧ ∃ J p' b' o', h = hp J L w1 w2 t ∧ Cf T e n0 b' o' I J p' ∧ o'.length < b' ∧ loopP T e (seqP T e (atomR T e 2) 20 2004) 19 2005 b' o' = R ∧ m = e - b') ⟨rfl, J1, p1, _, _, rfl, hz1 rfl, by show o1.length < b1; omega, hR, rfl⟩ ?_
  rintro m _ _ ⟨rfl, J, p', b', o', rfl, C, hB', es, hm⟩ ih
  have eT := Cf.tt C hT
  refine a_l0 rfl rfl rfl ?_
  refine a_ldcs (q := 130 + 19) rfl (hw.ld (i := 19) (by decide)) ?_
  refine a_gV rfl lX12_128 mo_X12_passes (h_passes (b := b') (k := 19) hw (by decide) (Cf.pp C) (by rw [eT]; exact Cf.nb C)) rfl rfl rfl ⟨12, _, rfl, rfl, rfl⟩ rfl (fun v' h' hv => ?_)
  obtain ⟨rfl, J2, rfl, h2⟩ := hv
  rw [eT] at h2 ⊢
  cases cw : isWd T e b' 19 with
  | false =>
    refine a_if_eq rfl (fun _ => ?_) (fun z => absurd rfl z)
    rw [if_neg (by rw [cw]; decide)] at h2
    refine a_s rfl rfl ?_
    rw [← es, loopP_f cw]
    exact a_zret rfl rfl rfl (QF.yes (Cf.rd C h2 (Cf.sk C)))
  | true =>
    refine a_if_eq rfl (fun z => absurd z (by decide)) (fun _ => ?_)
    rw [if_pos cw] at h2
    have n2 := nx_lt (T := T) (isWd_lt cw)
    have C2 : Cf T e n0 (nx T e b') o' I J2 (en T e b') := Cf.rd C h2 rfl
    have n2e := Cf.le C2
    have g4 := seqA_gd (T := T) (D := 2) (o := o') n2e
    refine a_l0 rfl rfl rfl ?_
    refine a_gV rfl lX12_213 mo_X12_readAllOf (h_readAllOf_4 hw hbt (Cf.tt C2 hT) (Cf.d C2 hd) (Cf.rf C2) (by omega)) rfl rfl rfl ⟨12, _, rfl, rfl, rfl⟩ rfl (fun v' h' hv => ?_)
    obtain ⟨rfl, J3, p3, rfl, hz3, hf3⟩ := hv
    have el := fun g => loopP_t (op := 2005) (o := o') (item := seqP T e (atomR T e 2) 20 2004) cw g
    have en' := loopP_n (op := 2005) (o := o') (item := seqP T e (atomR T e 2) 20 2004) cw
    rcases hr2 : (seqP T e (atomR T e 2) 20 2004) (nx T e b') o' with ⟨z2, b2, o2⟩
    rw [hr2] at hz3 hf3 g4 el en'
    cases z2 with
    | false =>
      refine a_if_ne rfl (fun z => absurd rfl z) (fun _ => ?_)
      refine a_s rfl rfl ?_
      rw [← es, en' Bool.false_ne_true]
      exact a_zret rfl rfl rfl (Cf.no C2 (hf3 rfl).1 (hf3 rfl).2)
    | true =>
      refine a_if_ne rfl (fun _ => ?_) (fun z => absurd (show (1 : Int32) = 0 from z) (by decide))
      have C3 : Cf T e n0 b2 o2 I J3 p3 := Cf.cc C2 (hz3 rfl)
      have c3e := Cf.le C3
      obtain ⟨-, -, g5⟩ := g4
      have g5 : nx T e b' < b2 ∧ o2.length + nx T e b' ≤ o'.length + b2 := g5 rfl
      have es2 : loopP T e (seqP T e (atomR T e 2) 20 2004) 19 2005 b2 (2005 :: o2) = R := (el (by show b' < b2; omega) rfl).symm.trans es
      refine a_l0 rfl rfl rfl ?_
      refine a_s rfl rfl ?_
      refine a_s rfl rfl ?_
      refine a_eV0 rfl lX12_180 mo_X12_emits (r_X12_emits (Cf.st C3) (by omega)) rfl rfl rfl ⟨12, _, rfl, rfl, rfl⟩ rfl ?_
      refine a_goto rfl ?_
      exact ih (e - b2) _ _ (by omega) ⟨rfl, _, p3, b2, _, rfl, Cf.em (z := 2005) C3 (by decide) (by decide), by show o2.length + 1 < b2; omega, es2, rfl⟩
theorem h_readAtom_3 (hw : WdS S) (hbt : BtT T) (hT : I 426 = T) (hd : I 420 13 = nI 3) (h : Cf T e n0 b o I I p) (hB : o.length < b) : Sp S m_X12_readAtom 29 0 0 [.ref 420] (hp I L w1 w2 t) (QF T e n0 (atomR T e 3 b o) I L w1 w2 t) nX := by
  have he4 := Cf.e4 h
  have hbe := Cf.le h
  refine Sp_of ok_X12_readAtom rfl rfl ?_
  show AW S m_X12_readAtom 29 _ _ 0 0 0 [some (.ref 420), none] [] (hp I L w1 w2 t)
  refine a_l0 rfl rfl rfl ?_
  refine a_s rfl rfl ?_
  refine a_gV rfl lX12_187 mo_X12_sign (h_sign (b := b) (c := 40) (by rw [hT]; exact hbt) (by decide) (Cf.pp h) (by rw [hT]; exact Cf.nb h)) rfl rfl rfl ⟨12, _, rfl, rfl, rfl⟩ rfl (fun v' h' hv => ?_)
  obtain ⟨rfl, J1, rfl, h1⟩ := hv
  rw [hT] at h1 ⊢
  cases c40 : sg T e b (nI 40) with
  | true =>
    have c40 : sg T e b 40 = true := c40
    refine a_if_eq rfl (fun z => absurd z (by decide)) (fun _ => ?_)
    rw [if_pos (show sg T e b (nI 40) = true from c40)] at h1
    have n1 := nx_lt (T := T) (sg_lt c40)
    have C1 : Cf T e n0 (nx T e b) o I J1 (en T e b) := Cf.rd h h1 rfl
    refine a_l0 rfl rfl rfl ?_
    refine a_geti rfl gfX12_194_12 rfl ?_
    refine a_top (y := nI 3) (Cf.d C1 hd) ?_
    refine a_s rfl rfl ?_
    refine a_ic_ne rfl (fun _ => ?_) (fun c => absurd c (by decide))
    refine a_l0 rfl rfl rfl ?_
    refine a_s rfl rfl ?_
    refine a_geti rfl gfX12_194_12 rfl ?_
    refine a_top (y := nI 3) (Cf.d C1 hd) ?_
    refine a_s rfl rfl ?_
    refine a_s rfl rfl ?_
    refine a_top (y := nI 4) (rfl) ?_
    refine a_puti rfl pfX12_194_12 rfl ?_
    refine a_l0 rfl rfl rfl ?_
    have g4 := cndP_gd (T := T) (fun b o h => atomR_gd (T := T) 2 b o h) (o := o) (Cf.le C1)
    refine a_gV rfl lX12_197 mo_X12_readCond (h_readCond_4 hw hbt ((up2_row (by decide)).trans (Cf.tt C1 hT)) up2_at (Cf.up13 C1) (by omega)) rfl rfl rfl ⟨12, _, rfl, rfl, rfl⟩ rfl (fun v' h' hv => ?_)
    obtain ⟨rfl, J9, p9, rfl, hz9, hf9⟩ := hv
    rw [show seqP T e (seqP T e (atomR T e 2) 20 2004) 19 2005 = cndP T e (atomR T e 2) from rfl] at hz9 hf9 ⊢
    rcases hr9 : cndP T e (atomR T e 2) (nx T e b) o with ⟨z9, b9, o9⟩
    rw [hr9] at hz9 hf9 g4
    rw [atomR_p c40 hr9]
    cases z9 with
    | false =>
      refine a_if_ne rfl (fun z => absurd rfl z) (fun _ => ?_)
      refine a_s rfl rfl ?_
      rw [if_neg (by decide)]
      exact a_zret rfl rfl rfl (QF.no (Fm.tr C1.1 (Fm.tr (Fm.up Fm.rf rfl) (hf9 rfl).1)) (hf9 rfl).2)
    | true =>
      refine a_if_ne rfl (fun _ => ?_) (fun z => absurd (show (1 : Int32) = 0 from z) (by decide))
      rw [if_pos rfl]
      have D9 : Cf T e n0 b9 o9 (up2 J1 420 13 (nI 4)) J9 p9 := hz9 rfl
      refine a_l0 rfl rfl rfl ?_
      refine a_s rfl rfl ?_
      refine a_geti rfl gfX12_194_12 rfl ?_
      refine a_top (y := nI 4) (D9.2.1.trans up2_at) ?_
      refine a_s rfl rfl ?_
      refine a_s rfl rfl ?_
      refine a_top (y := nI 3) (rfl) ?_
      refine a_puti rfl pfX12_194_12 rfl ?_
      have C9 := Cf.deep C1 hd D9
      have eT9 := Cf.tt C9 hT
      refine a_l0 rfl rfl rfl ?_
      refine a_s rfl rfl ?_
      refine a_gV rfl lX12_187 mo_X12_sign (h_sign (b := b9) (c := 41) (by rw [eT9]; exact hbt) (by decide) (Cf.pp C9) (by rw [eT9]; exact Cf.nb C9)) rfl rfl rfl ⟨12, _, rfl, rfl, rfl⟩ rfl (fun v' h' hv => ?_)
      obtain ⟨rfl, J3, rfl, h3⟩ := hv
      rw [eT9] at h3 ⊢
      cases c41 : sg T e b9 (nI 41) with
      | false =>
        have c41 : sg T e b9 41 = false := c41
        rw [if_neg (by rw [show sg T e b9 (nI 41) = false from c41]; decide)] at h3
        rw [if_neg (by rw [c41]; decide)]
        exact a_zret rfl rfl rfl (QF.no (Fm.tr C9.1 (Fm.mo (Rd.fm h3) sR_sY)) (Rd.be h3))
      | true =>
        have c41 : sg T e b9 41 = true := c41
        rw [if_pos (show sg T e b9 (nI 41) = true from c41)] at h3
        rw [if_pos c41]
        exact a_zret rfl rfl rfl (QF.yes (Cf.rd C9 h3 rfl))
  | false =>
  have c40 : sg T e b 40 = false := c40
  refine a_if_eq rfl (fun _ => ?_) (fun z => absurd rfl z)
  rw [if_neg (by rw [show sg T e b (nI 40) = false from c40]; decide)] at h1
  have C0 : Cf T e n0 b o I J1 b := Cf.rd h h1 (Cf.sk h)
  have eT0 := Cf.tt C0 hT
  refine a_l0 rfl rfl rfl ?_
  refine a_ldcs (q := 130 + 21) rfl (hw.ld (i := 21) (by decide)) ?_
  refine a_gV rfl lX12_128 mo_X12_passes (h_passes (b := b) (k := 21) hw (by decide) (Cf.pp C0) (by rw [eT0]; exact Cf.nb C0)) rfl rfl rfl ⟨12, _, rfl, rfl, rfl⟩ rfl (fun v' h' hv => ?_)
  obtain ⟨rfl, J2, rfl, h2⟩ := hv
  rw [eT0] at h2 ⊢
  cases c21 : isWd T e b 21 with
  | true =>
    refine a_if_eq rfl (fun z => absurd z (by decide)) (fun _ => ?_)
    rw [if_pos c21] at h2
    have n1 := nx_lt (T := T) (isWd_lt c21)
    have C2 : Cf T e n0 (nx T e b) o I J2 (en T e b) := Cf.rd C0 h2 rfl
    refine a_l0 rfl rfl rfl ?_
    refine a_geti rfl gfX12_194_12 rfl ?_
    refine a_top (y := nI 3) (Cf.d C2 hd) ?_
    refine a_s rfl rfl ?_
    refine a_ic_ne rfl (fun _ => ?_) (fun c => absurd c (by decide))
    refine a_l0 rfl rfl rfl ?_
    refine a_s rfl rfl ?_
    refine a_geti rfl gfX12_194_12 rfl ?_
    refine a_top (y := nI 3) (Cf.d C2 hd) ?_
    refine a_s rfl rfl ?_
    refine a_s rfl rfl ?_
    refine a_top (y := nI 4) (rfl) ?_
    refine a_puti rfl pfX12_194_12 rfl ?_
    refine a_l0 rfl rfl rfl ?_
    have g4 := atomR_gdo (T := T) (D := 2) (o := o) (Cf.le C2)
    refine a_gV rfl lX12_202 mo_X12_readAtom (h_readAtom_4 hw hbt ((up2_row (by decide)).trans (Cf.tt C2 hT)) up2_at (Cf.up13 C2) (by omega)) rfl rfl rfl ⟨12, _, rfl, rfl, rfl⟩ rfl (fun v' h' hv => ?_)
    obtain ⟨rfl, J9, p9, rfl, hz9, hf9⟩ := hv
    rcases hr9 : atomR T e 2 (nx T e b) o with ⟨z9, b9, o9⟩
    rw [hr9] at hz9 hf9 g4
    rw [atomR_n c40 c21 hr9]
    cases z9 with
    | false =>
      refine a_if_ne rfl (fun z => absurd rfl z) (fun _ => ?_)
      refine a_s rfl rfl ?_
      rw [if_neg (by decide)]
      exact a_zret rfl rfl rfl (QF.no (Fm.tr C2.1 (Fm.tr (Fm.up Fm.rf rfl) (hf9 rfl).1)) (hf9 rfl).2)
    | true =>
      refine a_if_ne rfl (fun _ => ?_) (fun z => absurd (show (1 : Int32) = 0 from z) (by decide))
      rw [if_pos rfl]
      have D9 : Cf T e n0 b9 o9 (up2 J2 420 13 (nI 4)) J9 p9 := hz9 rfl
      obtain ⟨-, -, g5⟩ := g4
      have g5 : nx T e b < b9 ∧ o9.length + nx T e b ≤ o.length + b9 := g5 rfl
      have c9e := Cf.le D9
      refine a_l0 rfl rfl rfl ?_
      refine a_s rfl rfl ?_
      refine a_geti rfl gfX12_194_12 rfl ?_
      refine a_top (y := nI 4) (D9.2.1.trans up2_at) ?_
      refine a_s rfl rfl ?_
      refine a_s rfl rfl ?_
      refine a_top (y := nI 3) (rfl) ?_
      refine a_puti rfl pfX12_194_12 rfl ?_
      have C9 := Cf.deep C2 hd D9
      refine a_l0 rfl rfl rfl ?_
      refine a_s rfl rfl ?_
      refine a_s rfl rfl ?_
      refine a_eV0 rfl lX12_180 mo_X12_emits (r_X12_emits (Cf.st C9) (by omega)) rfl rfl rfl ⟨12, _, rfl, rfl, rfl⟩ rfl ?_
      refine a_s rfl rfl ?_
      exact a_zret rfl rfl rfl (QF.yes (Cf.em (z := 2003) C9 (by decide) (by decide)))
  | false =>
  refine a_if_eq rfl (fun _ => ?_) (fun z => absurd rfl z)
  rw [if_neg (by rw [c21]; decide)] at h2
  have C2 : Cf T e n0 b o I J2 b := Cf.rd C0 h2 (Cf.sk C0)
  rw [atomR_b c40 c21]
  refine a_l0 rfl rfl rfl ?_
  refine a_gV rfl lX12_205 mo_X12_readTag (h_readTag hw (Cf.tt C2 hT) (Cf.rf C2) hB) rfl rfl rfl ⟨12, _, rfl, rfl, rfl⟩ rfl (fun v' h' hv => ?_)
  obtain ⟨z3, x3, J3, p3, rfl, rfl, ht3, hf3⟩ := hv
  cases z3 with
  | true =>
    refine a_if_eq rfl (fun z => absurd z (by decide)) (fun _ => ?_)
    refine a_s rfl rfl ?_
    obtain ⟨hx, D3⟩ := ht3 rfl
    rcases hx with ⟨c22, rfl⟩ | ⟨c22, c23, rfl⟩
    · rw [show baseP T e b o = (true, nx T e b, 1007 :: o) from if_pos c22]
      exact a_zret rfl rfl rfl (QF.yes (Cf.cc C2 D3))
    · rw [show baseP T e b o = (true, nx T e b, 1008 :: o) from (if_neg (by rw [c22]; decide)).trans (if_pos c23)]
      exact a_zret rfl rfl rfl (QF.yes (Cf.cc C2 D3))
  | false =>
  refine a_if_eq rfl (fun _ => ?_) (fun z => absurd rfl z)
  obtain ⟨⟨c22, c23⟩, D3⟩ := hf3 rfl
  have C3 := Cf.cc C2 D3
  have g4 := sumP_gd (T := T) (o := o) hbe
  refine a_l0 rfl rfl rfl ?_
  refine a_gV rfl lX12_208 mo_X12_readSum (h_readSum hw hbt (Cf.tt C3 hT) (Cf.rf C3) hB) rfl rfl rfl ⟨12, _, rfl, rfl, rfl⟩ rfl (fun v' h' hv => ?_)
  obtain ⟨rfl, J4, p4, rfl, hz4, hf4⟩ := hv
  rcases hr4 : sumP T e b o with ⟨z4, b4, o4⟩
  rw [baseP_s c22 c23 hr4]
  rw [hr4] at hz4 hf4 g4
  cases z4 with
  | false =>
    refine a_if_ne rfl (fun z => absurd rfl z) (fun _ => ?_)
    refine a_s rfl rfl ?_
    rw [if_neg (by decide)]
    exact a_zret rfl rfl rfl (Cf.no C3 (hf4 rfl).1 (hf4 rfl).2)
  | true =>
  refine a_if_ne rfl (fun _ => ?_) (fun z => absurd (show (1 : Int32) = 0 from z) (by decide))
  rw [if_pos rfl]
  have C4 : Cf T e n0 b4 o4 I J4 p4 := Cf.cc C3 (hz4 rfl)
  obtain ⟨-, -, g4⟩ := g4
  have g4 : b < b4 ∧ o4.length + b ≤ o.length + b4 := g4 rfl
  have key : ∀ {z5 : Bool} {x : Int32} {p' : Nat} {J : Nat → Nat → Int32}, b4 < nx T e b4 → x = (if z5 = true then 2001 else 2002) → Cf T e n0 (nx T e b4) o4 I J p' → AW S m_X12_readAtom 29 (QF T e n0 (cmpP T e x (nx T e b4) o4) I L w1 w2 t) nX 0 0 152 [some (.ref 420), some (.int (bI z5))] [] (hp J L w1 w2 t) := by
    intro z5 x p' J n4 hx C
    have g6 := sumP_gd (T := T) (o := o4) (Cf.le C)
    refine a_l0 rfl rfl rfl ?_
    refine a_gV rfl lX12_208 mo_X12_readSum (h_readSum hw hbt (Cf.tt C hT) (Cf.rf C) (by omega)) rfl rfl rfl ⟨12, _, rfl, rfl, rfl⟩ rfl (fun v' h' hv => ?_)
    obtain ⟨rfl, J6, p6, rfl, hz6, hf6⟩ := hv
    rcases hr6 : sumP T e (nx T e b4) o4 with ⟨z6, b6, o6⟩
    rw [hr6] at hz6 hf6 g6
    cases z6 with
    | false =>
      refine a_if_ne rfl (fun z => absurd rfl z) (fun _ => ?_)
      refine a_s rfl rfl ?_
      rw [cmpP_f hr6]
      exact a_zret rfl rfl rfl (Cf.no C (hf6 rfl).1 (hf6 rfl).2)
    | true =>
      refine a_if_ne rfl (fun _ => ?_) (fun z => absurd (show (1 : Int32) = 0 from z) (by decide))
      rw [cmpP_t hr6]
      have C6 : Cf T e n0 b6 o6 I J6 p6 := Cf.cc C (hz6 rfl)
      have c6e := Cf.le C6
      obtain ⟨-, -, g6⟩ := g6
      have g6 : nx T e b4 < b6 ∧ o6.length + nx T e b4 ≤ o4.length + b6 := g6 rfl
      refine a_l0 rfl rfl rfl ?_
      refine a_l1 rfl rfl rfl ?_
      cases z5 with
      | false =>
        rw [if_neg (by decide)] at hx
        subst hx
        refine a_if_eq rfl (fun _ => ?_) (fun c => absurd rfl c)
        refine a_s rfl rfl ?_
        refine a_s rfl rfl ?_
        refine a_eV0 rfl lX12_180 mo_X12_emits (r_X12_emits (Cf.st C6) (by omega)) rfl rfl rfl ⟨12, _, rfl, rfl, rfl⟩ rfl ?_
        refine a_s rfl rfl ?_
        exact a_zret rfl rfl rfl (QF.yes (Cf.em (z := 2002) C6 (by decide) (by decide)))
      | true =>
        rw [if_pos rfl] at hx
        subst hx
        refine a_if_eq rfl (fun c => absurd c (by decide)) (fun _ => ?_)
        refine a_s rfl rfl ?_
        refine a_goto rfl ?_
        refine a_s rfl rfl ?_
        refine a_eV0 rfl lX12_180 mo_X12_emits (r_X12_emits (Cf.st C6) (by omega)) rfl rfl rfl ⟨12, _, rfl, rfl, rfl⟩ rfl ?_
        refine a_s rfl rfl ?_
        exact a_zret rfl rfl rfl (QF.yes (Cf.em (z := 2001) C6 (by decide) (by decide)))
  have eT4 := Cf.tt C4 hT
  refine a_l0 rfl rfl rfl ?_
  refine a_s rfl rfl ?_
  refine a_gV rfl lX12_187 mo_X12_sign (h_sign (b := b4) (c := 60) (by rw [eT4]; exact hbt) (by decide) (Cf.pp C4) (by rw [eT4]; exact Cf.nb C4)) rfl rfl rfl ⟨12, _, rfl, rfl, rfl⟩ rfl (fun v' h' hv => ?_)
  obtain ⟨rfl, J5, rfl, h5⟩ := hv
  rw [eT4] at h5 ⊢
  refine a_s1 rfl rfl rfl rfl rfl rfl ?_
  refine a_l1 rfl rfl rfl ?_
  cases c60 : sg T e b4 (nI 60) with
  | true =>
    have c60 : sg T e b4 60 = true := c60
    refine a_if_ne rfl (fun _ => ?_) (fun z => absurd (show (1 : Int32) = 0 from z) (by decide))
    rw [if_pos (show sg T e b4 (nI 60) = true from c60)] at h5
    rw [if_pos c60]
    exact key (z5 := true) (nx_lt (sg_lt c60)) rfl (Cf.rd C4 h5 rfl)
  | false =>
  have c60 : sg T e b4 60 = false := c60
  refine a_if_ne rfl (fun z => absurd rfl z) (fun _ => ?_)
  rw [if_neg (by rw [show sg T e b4 (nI 60) = false from c60]; decide)] at h5
  rw [if_neg (by rw [c60]; decide)]
  have C5 : Cf T e n0 b4 o4 I J5 b4 := Cf.rd C4 h5 (Cf.sk C4)
  have eT5 := Cf.tt C5 hT
  refine a_l0 rfl rfl rfl ?_
  refine a_s rfl rfl ?_
  refine a_gV rfl lX12_187 mo_X12_sign (h_sign (b := b4) (c := 62) (by rw [eT5]; exact hbt) (by decide) (Cf.pp C5) (by rw [eT5]; exact Cf.nb C5)) rfl rfl rfl ⟨12, _, rfl, rfl, rfl⟩ rfl (fun v' h' hv => ?_)
  obtain ⟨rfl, J7, rfl, h7⟩ := hv
  rw [eT5] at h7 ⊢
  cases c62 : sg T e b4 (nI 62) with
  | false =>
    have c62 : sg T e b4 62 = false := c62
    refine a_if_eq rfl (fun _ => ?_) (fun z => absurd rfl z)
    rw [if_neg (by rw [show sg T e b4 (nI 62) = false from c62]; decide)] at h7
    rw [if_neg (by rw [c62]; decide)]
    refine a_s rfl rfl ?_
    exact a_zret rfl rfl rfl (QF.no (Fm.tr C5.1 (Fm.mo (Rd.fm h7) sR_sY)) (Rd.be h7))
  | true =>
    have c62 : sg T e b4 62 = true := c62
    refine a_if_eq rfl (fun z => absurd z (by decide)) (fun _ => ?_)
    rw [if_pos (show sg T e b4 (nI 62) = true from c62)] at h7
    rw [if_pos c62]
    exact key (z5 := false) (nx_lt (sg_lt c62)) rfl (Cf.rd C5 h7 rfl)
theorem h_readAllOf_3 (hw : WdS S) (hbt : BtT T) (hT : I 426 = T) (hd : I 420 13 = nI 3) (h : Cf T e n0 b o I I p) (hB : o.length < b) : Sp S m_X12_readAllOf 30 0 0 [.ref 420] (hp I L w1 w2 t) (QF T e n0 (seqP T e (atomR T e 3) 20 2004 b o) I L w1 w2 t) nX := by
  have he4 := Cf.e4 h
  have g0 := atomR_gdo (T := T) (D := 3) (o := o) (Cf.le h)
  refine Sp_of ok_X12_readAllOf rfl rfl ?_
  show AW S m_X12_readAllOf 30 _ _ 0 0 0 [some (.ref 420)] [] (hp I L w1 w2 t)
  refine a_l0 rfl rfl rfl ?_
  refine a_gV rfl lX12_202 mo_X12_readAtom (h_readAtom_3 hw hbt hT hd h hB) rfl rfl rfl ⟨12, _, rfl, rfl, rfl⟩ rfl (fun v' h' hv => ?_)
  obtain ⟨rfl, J1, p1, rfl, hz1, hf1⟩ := hv
  rcases hr : (atomR T e 3) b o with ⟨z, b1, o1⟩
  rw [seqP_of hr]
  rw [hr] at hz1 hf1 g0
  cases z with
  | false =>
    refine a_if_ne rfl (fun z => absurd rfl z) (fun _ => ?_)
    refine a_s rfl rfl ?_
    rw [if_neg (by decide)]
    exact a_zret rfl rfl rfl (QF.no (hf1 rfl).1 (hf1 rfl).2)
  | true =>
  refine a_if_ne rfl (fun _ => ?_) (fun z => absurd (show (1 : Int32) = 0 from z) (by decide))
  rw [if_pos rfl]
  obtain ⟨-, -, g3⟩ := g0
  have g3 : b < b1 ∧ o1.length + b ≤ o.length + b1 := g3 rfl
  generalize hR : loopP T e (atomR T e 3) 20 2004 b1 o1 = R
  refine a_inv (n := e - b1) (fun m ls h => ls = [some (.ref 420)] ∧ ∃ J p' b' o', h = hp J L w1 w2 t ∧ Cf T e n0 b' o' I J p' ∧ o'.length < b' ∧ loopP T e (atomR T e 3) 20 2004 b' o' = R ∧ m = e - b') ⟨rfl, J1, p1, _, _, rfl, hz1 rfl, by show o1.length < b1; omega, hR, rfl⟩ ?_
  rintro m _ _ ⟨rfl, J, p', b', o', rfl, C, hB', es, hm⟩ ih
  have eT := Cf.tt C hT
  refine a_l0 rfl rfl rfl ?_
  refine a_ldcs (q := 130 + 20) rfl (hw.ld (i := 20) (by decide)) ?_
  refine a_gV rfl lX12_128 mo_X12_passes (h_passes (b := b') (k := 20) hw (by decide) (Cf.pp C) (by rw [eT]; exact Cf.nb C)) rfl rfl rfl ⟨12, _, rfl, rfl, rfl⟩ rfl (fun v' h' hv => ?_)
  obtain ⟨rfl, J2, rfl, h2⟩ := hv
  rw [eT] at h2 ⊢
  cases cw : isWd T e b' 20 with
  | false =>
    refine a_if_eq rfl (fun _ => ?_) (fun z => absurd rfl z)
    rw [if_neg (by rw [cw]; decide)] at h2
    refine a_s rfl rfl ?_
    rw [← es, loopP_f cw]
    exact a_zret rfl rfl rfl (QF.yes (Cf.rd C h2 (Cf.sk C)))
  | true =>
    refine a_if_eq rfl (fun z => absurd z (by decide)) (fun _ => ?_)
    rw [if_pos cw] at h2
    have n2 := nx_lt (T := T) (isWd_lt cw)
    have C2 : Cf T e n0 (nx T e b') o' I J2 (en T e b') := Cf.rd C h2 rfl
    have n2e := Cf.le C2
    have g4 := atomR_gdo (T := T) (D := 3) (o := o') n2e
    refine a_l0 rfl rfl rfl ?_
    refine a_gV rfl lX12_202 mo_X12_readAtom (h_readAtom_3 hw hbt (Cf.tt C2 hT) (Cf.d C2 hd) (Cf.rf C2) (by omega)) rfl rfl rfl ⟨12, _, rfl, rfl, rfl⟩ rfl (fun v' h' hv => ?_)
    obtain ⟨rfl, J3, p3, rfl, hz3, hf3⟩ := hv
    have el := fun g => loopP_t (op := 2004) (o := o') (item := atomR T e 3) cw g
    have en' := loopP_n (op := 2004) (o := o') (item := atomR T e 3) cw
    rcases hr2 : (atomR T e 3) (nx T e b') o' with ⟨z2, b2, o2⟩
    rw [hr2] at hz3 hf3 g4 el en'
    cases z2 with
    | false =>
      refine a_if_ne rfl (fun z => absurd rfl z) (fun _ => ?_)
      refine a_s rfl rfl ?_
      rw [← es, en' Bool.false_ne_true]
      exact a_zret rfl rfl rfl (Cf.no C2 (hf3 rfl).1 (hf3 rfl).2)
    | true =>
      refine a_if_ne rfl (fun _ => ?_) (fun z => absurd (show (1 : Int32) = 0 from z) (by decide))
      have C3 : Cf T e n0 b2 o2 I J3 p3 := Cf.cc C2 (hz3 rfl)
      have c3e := Cf.le C3
      obtain ⟨-, -, g5⟩ := g4
      have g5 : nx T e b' < b2 ∧ o2.length + nx T e b' ≤ o'.length + b2 := g5 rfl
      have es2 : loopP T e (atomR T e 3) 20 2004 b2 (2004 :: o2) = R := (el (by show b' < b2; omega) rfl).symm.trans es
      refine a_l0 rfl rfl rfl ?_
      refine a_s rfl rfl ?_
      refine a_s rfl rfl ?_
      refine a_eV0 rfl lX12_180 mo_X12_emits (r_X12_emits (Cf.st C3) (by omega)) rfl rfl rfl ⟨12, _, rfl, rfl, rfl⟩ rfl ?_
      refine a_goto rfl ?_
      exact ih (e - b2) _ _ (by omega) ⟨rfl, _, p3, b2, _, rfl, Cf.em (z := 2004) C3 (by decide) (by decide), by show o2.length + 1 < b2; omega, es2, rfl⟩
theorem h_readCond_3 (hw : WdS S) (hbt : BtT T) (hT : I 426 = T) (hd : I 420 13 = nI 3) (h : Cf T e n0 b o I I p) (hB : o.length < b) : Sp S m_X12_readCond 31 0 0 [.ref 420] (hp I L w1 w2 t) (QF T e n0 (seqP T e (seqP T e (atomR T e 3) 20 2004) 19 2005 b o) I L w1 w2 t) nX := by
  have he4 := Cf.e4 h
  have g0 := seqA_gd (T := T) (D := 3) (o := o) (Cf.le h)
  refine Sp_of ok_X12_readCond rfl rfl ?_
  show AW S m_X12_readCond 31 _ _ 0 0 0 [some (.ref 420)] [] (hp I L w1 w2 t)
  refine a_l0 rfl rfl rfl ?_
  refine a_gV rfl lX12_213 mo_X12_readAllOf (h_readAllOf_3 hw hbt hT hd h hB) rfl rfl rfl ⟨12, _, rfl, rfl, rfl⟩ rfl (fun v' h' hv => ?_)
  obtain ⟨rfl, J1, p1, rfl, hz1, hf1⟩ := hv
  rcases hr : (seqP T e (atomR T e 3) 20 2004) b o with ⟨z, b1, o1⟩
  rw [seqP_of hr]
  rw [hr] at hz1 hf1 g0
  cases z with
  | false =>
    refine a_if_ne rfl (fun z => absurd rfl z) (fun _ => ?_)
    refine a_s rfl rfl ?_
    rw [if_neg (by decide)]
    exact a_zret rfl rfl rfl (QF.no (hf1 rfl).1 (hf1 rfl).2)
  | true =>
  refine a_if_ne rfl (fun _ => ?_) (fun z => absurd (show (1 : Int32) = 0 from z) (by decide))
  rw [if_pos rfl]
  obtain ⟨-, -, g3⟩ := g0
  have g3 : b < b1 ∧ o1.length + b ≤ o.length + b1 := g3 rfl
  generalize hR : loopP T e (seqP T e (atomR T e 3) 20 2004) 19 2005 b1 o1 = R
  refine a_inv (n := e - b1) (fun m ls h => ls = [some (.ref 420)] ∧ ∃ J p' b' o', h = hp J L w1 w2 t ∧ Cf T e n0 b' o' I J p' ∧ o'.length < b' ∧ loopP T e (seqP T e (atomR T e 3) 20 2004) 19 2005 b' o' = R ∧ m = e - b') ⟨rfl, J1, p1, _, _, rfl, hz1 rfl, by show o1.length < b1; omega, hR, rfl⟩ ?_
  rintro m _ _ ⟨rfl, J, p', b', o', rfl, C, hB', es, hm⟩ ih
  have eT := Cf.tt C hT
  refine a_l0 rfl rfl rfl ?_
  refine a_ldcs (q := 130 + 19) rfl (hw.ld (i := 19) (by decide)) ?_
  refine a_gV rfl lX12_128 mo_X12_passes (h_passes (b := b') (k := 19) hw (by decide) (Cf.pp C) (by rw [eT]; exact Cf.nb C)) rfl rfl rfl ⟨12, _, rfl, rfl, rfl⟩ rfl (fun v' h' hv => ?_)
  obtain ⟨rfl, J2, rfl, h2⟩ := hv
  rw [eT] at h2 ⊢
  cases cw : isWd T e b' 19 with
  | false =>
    refine a_if_eq rfl (fun _ => ?_) (fun z => absurd rfl z)
    rw [if_neg (by rw [cw]; decide)] at h2
    refine a_s rfl rfl ?_
    rw [← es, loopP_f cw]
    exact a_zret rfl rfl rfl (QF.yes (Cf.rd C h2 (Cf.sk C)))
  | true =>
    refine a_if_eq rfl (fun z => absurd z (by decide)) (fun _ => ?_)
    rw [if_pos cw] at h2
    have n2 := nx_lt (T := T) (isWd_lt cw)
    have C2 : Cf T e n0 (nx T e b') o' I J2 (en T e b') := Cf.rd C h2 rfl
    have n2e := Cf.le C2
    have g4 := seqA_gd (T := T) (D := 3) (o := o') n2e
    refine a_l0 rfl rfl rfl ?_
    refine a_gV rfl lX12_213 mo_X12_readAllOf (h_readAllOf_3 hw hbt (Cf.tt C2 hT) (Cf.d C2 hd) (Cf.rf C2) (by omega)) rfl rfl rfl ⟨12, _, rfl, rfl, rfl⟩ rfl (fun v' h' hv => ?_)
    obtain ⟨rfl, J3, p3, rfl, hz3, hf3⟩ := hv
    have el := fun g => loopP_t (op := 2005) (o := o') (item := seqP T e (atomR T e 3) 20 2004) cw g
    have en' := loopP_n (op := 2005) (o := o') (item := seqP T e (atomR T e 3) 20 2004) cw
    rcases hr2 : (seqP T e (atomR T e 3) 20 2004) (nx T e b') o' with ⟨z2, b2, o2⟩
    rw [hr2] at hz3 hf3 g4 el en'
    cases z2 with
    | false =>
      refine a_if_ne rfl (fun z => absurd rfl z) (fun _ => ?_)
      refine a_s rfl rfl ?_
      rw [← es, en' Bool.false_ne_true]
      exact a_zret rfl rfl rfl (Cf.no C2 (hf3 rfl).1 (hf3 rfl).2)
    | true =>
      refine a_if_ne rfl (fun _ => ?_) (fun z => absurd (show (1 : Int32) = 0 from z) (by decide))
      have C3 : Cf T e n0 b2 o2 I J3 p3 := Cf.cc C2 (hz3 rfl)
      have c3e := Cf.le C3
      obtain ⟨-, -, g5⟩ := g4
      have g5 : nx T e b' < b2 ∧ o2.length + nx T e b' ≤ o'.length + b2 := g5 rfl
      have es2 : loopP T e (seqP T e (atomR T e 3) 20 2004) 19 2005 b2 (2005 :: o2) = R := (el (by show b' < b2; omega) rfl).symm.trans es
      refine a_l0 rfl rfl rfl ?_
      refine a_s rfl rfl ?_
      refine a_s rfl rfl ?_
      refine a_eV0 rfl lX12_180 mo_X12_emits (r_X12_emits (Cf.st C3) (by omega)) rfl rfl rfl ⟨12, _, rfl, rfl, rfl⟩ rfl ?_
      refine a_goto rfl ?_
      exact ih (e - b2) _ _ (by omega) ⟨rfl, _, p3, b2, _, rfl, Cf.em (z := 2005) C3 (by decide) (by decide), by show o2.length + 1 < b2; omega, es2, rfl⟩
theorem h_readAtom_2 (hw : WdS S) (hbt : BtT T) (hT : I 426 = T) (hd : I 420 13 = nI 2) (h : Cf T e n0 b o I I p) (hB : o.length < b) : Sp S m_X12_readAtom 32 0 0 [.ref 420] (hp I L w1 w2 t) (QF T e n0 (atomR T e 4 b o) I L w1 w2 t) nX := by
  have he4 := Cf.e4 h
  have hbe := Cf.le h
  refine Sp_of ok_X12_readAtom rfl rfl ?_
  show AW S m_X12_readAtom 32 _ _ 0 0 0 [some (.ref 420), none] [] (hp I L w1 w2 t)
  refine a_l0 rfl rfl rfl ?_
  refine a_s rfl rfl ?_
  refine a_gV rfl lX12_187 mo_X12_sign (h_sign (b := b) (c := 40) (by rw [hT]; exact hbt) (by decide) (Cf.pp h) (by rw [hT]; exact Cf.nb h)) rfl rfl rfl ⟨12, _, rfl, rfl, rfl⟩ rfl (fun v' h' hv => ?_)
  obtain ⟨rfl, J1, rfl, h1⟩ := hv
  rw [hT] at h1 ⊢
  cases c40 : sg T e b (nI 40) with
  | true =>
    have c40 : sg T e b 40 = true := c40
    refine a_if_eq rfl (fun z => absurd z (by decide)) (fun _ => ?_)
    rw [if_pos (show sg T e b (nI 40) = true from c40)] at h1
    have n1 := nx_lt (T := T) (sg_lt c40)
    have C1 : Cf T e n0 (nx T e b) o I J1 (en T e b) := Cf.rd h h1 rfl
    refine a_l0 rfl rfl rfl ?_
    refine a_geti rfl gfX12_194_12 rfl ?_
    refine a_top (y := nI 2) (Cf.d C1 hd) ?_
    refine a_s rfl rfl ?_
    refine a_ic_ne rfl (fun _ => ?_) (fun c => absurd c (by decide))
    refine a_l0 rfl rfl rfl ?_
    refine a_s rfl rfl ?_
    refine a_geti rfl gfX12_194_12 rfl ?_
    refine a_top (y := nI 2) (Cf.d C1 hd) ?_
    refine a_s rfl rfl ?_
    refine a_s rfl rfl ?_
    refine a_top (y := nI 3) (rfl) ?_
    refine a_puti rfl pfX12_194_12 rfl ?_
    refine a_l0 rfl rfl rfl ?_
    have g4 := cndP_gd (T := T) (fun b o h => atomR_gd (T := T) 3 b o h) (o := o) (Cf.le C1)
    refine a_gV rfl lX12_197 mo_X12_readCond (h_readCond_3 hw hbt ((up2_row (by decide)).trans (Cf.tt C1 hT)) up2_at (Cf.up13 C1) (by omega)) rfl rfl rfl ⟨12, _, rfl, rfl, rfl⟩ rfl (fun v' h' hv => ?_)
    obtain ⟨rfl, J9, p9, rfl, hz9, hf9⟩ := hv
    rw [show seqP T e (seqP T e (atomR T e 3) 20 2004) 19 2005 = cndP T e (atomR T e 3) from rfl] at hz9 hf9 ⊢
    rcases hr9 : cndP T e (atomR T e 3) (nx T e b) o with ⟨z9, b9, o9⟩
    rw [hr9] at hz9 hf9 g4
    rw [atomR_p c40 hr9]
    cases z9 with
    | false =>
      refine a_if_ne rfl (fun z => absurd rfl z) (fun _ => ?_)
      refine a_s rfl rfl ?_
      rw [if_neg (by decide)]
      exact a_zret rfl rfl rfl (QF.no (Fm.tr C1.1 (Fm.tr (Fm.up Fm.rf rfl) (hf9 rfl).1)) (hf9 rfl).2)
    | true =>
      refine a_if_ne rfl (fun _ => ?_) (fun z => absurd (show (1 : Int32) = 0 from z) (by decide))
      rw [if_pos rfl]
      have D9 : Cf T e n0 b9 o9 (up2 J1 420 13 (nI 3)) J9 p9 := hz9 rfl
      refine a_l0 rfl rfl rfl ?_
      refine a_s rfl rfl ?_
      refine a_geti rfl gfX12_194_12 rfl ?_
      refine a_top (y := nI 3) (D9.2.1.trans up2_at) ?_
      refine a_s rfl rfl ?_
      refine a_s rfl rfl ?_
      refine a_top (y := nI 2) (rfl) ?_
      refine a_puti rfl pfX12_194_12 rfl ?_
      have C9 := Cf.deep C1 hd D9
      have eT9 := Cf.tt C9 hT
      refine a_l0 rfl rfl rfl ?_
      refine a_s rfl rfl ?_
      refine a_gV rfl lX12_187 mo_X12_sign (h_sign (b := b9) (c := 41) (by rw [eT9]; exact hbt) (by decide) (Cf.pp C9) (by rw [eT9]; exact Cf.nb C9)) rfl rfl rfl ⟨12, _, rfl, rfl, rfl⟩ rfl (fun v' h' hv => ?_)
      obtain ⟨rfl, J3, rfl, h3⟩ := hv
      rw [eT9] at h3 ⊢
      cases c41 : sg T e b9 (nI 41) with
      | false =>
        have c41 : sg T e b9 41 = false := c41
        rw [if_neg (by rw [show sg T e b9 (nI 41) = false from c41]; decide)] at h3
        rw [if_neg (by rw [c41]; decide)]
        exact a_zret rfl rfl rfl (QF.no (Fm.tr C9.1 (Fm.mo (Rd.fm h3) sR_sY)) (Rd.be h3))
      | true =>
        have c41 : sg T e b9 41 = true := c41
        rw [if_pos (show sg T e b9 (nI 41) = true from c41)] at h3
        rw [if_pos c41]
        exact a_zret rfl rfl rfl (QF.yes (Cf.rd C9 h3 rfl))
  | false =>
  have c40 : sg T e b 40 = false := c40
  refine a_if_eq rfl (fun _ => ?_) (fun z => absurd rfl z)
  rw [if_neg (by rw [show sg T e b (nI 40) = false from c40]; decide)] at h1
  have C0 : Cf T e n0 b o I J1 b := Cf.rd h h1 (Cf.sk h)
  have eT0 := Cf.tt C0 hT
  refine a_l0 rfl rfl rfl ?_
  refine a_ldcs (q := 130 + 21) rfl (hw.ld (i := 21) (by decide)) ?_
  refine a_gV rfl lX12_128 mo_X12_passes (h_passes (b := b) (k := 21) hw (by decide) (Cf.pp C0) (by rw [eT0]; exact Cf.nb C0)) rfl rfl rfl ⟨12, _, rfl, rfl, rfl⟩ rfl (fun v' h' hv => ?_)
  obtain ⟨rfl, J2, rfl, h2⟩ := hv
  rw [eT0] at h2 ⊢
  cases c21 : isWd T e b 21 with
  | true =>
    refine a_if_eq rfl (fun z => absurd z (by decide)) (fun _ => ?_)
    rw [if_pos c21] at h2
    have n1 := nx_lt (T := T) (isWd_lt c21)
    have C2 : Cf T e n0 (nx T e b) o I J2 (en T e b) := Cf.rd C0 h2 rfl
    refine a_l0 rfl rfl rfl ?_
    refine a_geti rfl gfX12_194_12 rfl ?_
    refine a_top (y := nI 2) (Cf.d C2 hd) ?_
    refine a_s rfl rfl ?_
    refine a_ic_ne rfl (fun _ => ?_) (fun c => absurd c (by decide))
    refine a_l0 rfl rfl rfl ?_
    refine a_s rfl rfl ?_
    refine a_geti rfl gfX12_194_12 rfl ?_
    refine a_top (y := nI 2) (Cf.d C2 hd) ?_
    refine a_s rfl rfl ?_
    refine a_s rfl rfl ?_
    refine a_top (y := nI 3) (rfl) ?_
    refine a_puti rfl pfX12_194_12 rfl ?_
    refine a_l0 rfl rfl rfl ?_
    have g4 := atomR_gdo (T := T) (D := 3) (o := o) (Cf.le C2)
    refine a_gV rfl lX12_202 mo_X12_readAtom (h_readAtom_3 hw hbt ((up2_row (by decide)).trans (Cf.tt C2 hT)) up2_at (Cf.up13 C2) (by omega)) rfl rfl rfl ⟨12, _, rfl, rfl, rfl⟩ rfl (fun v' h' hv => ?_)
    obtain ⟨rfl, J9, p9, rfl, hz9, hf9⟩ := hv
    rcases hr9 : atomR T e 3 (nx T e b) o with ⟨z9, b9, o9⟩
    rw [hr9] at hz9 hf9 g4
    rw [atomR_n c40 c21 hr9]
    cases z9 with
    | false =>
      refine a_if_ne rfl (fun z => absurd rfl z) (fun _ => ?_)
      refine a_s rfl rfl ?_
      rw [if_neg (by decide)]
      exact a_zret rfl rfl rfl (QF.no (Fm.tr C2.1 (Fm.tr (Fm.up Fm.rf rfl) (hf9 rfl).1)) (hf9 rfl).2)
    | true =>
      refine a_if_ne rfl (fun _ => ?_) (fun z => absurd (show (1 : Int32) = 0 from z) (by decide))
      rw [if_pos rfl]
      have D9 : Cf T e n0 b9 o9 (up2 J2 420 13 (nI 3)) J9 p9 := hz9 rfl
      obtain ⟨-, -, g5⟩ := g4
      have g5 : nx T e b < b9 ∧ o9.length + nx T e b ≤ o.length + b9 := g5 rfl
      have c9e := Cf.le D9
      refine a_l0 rfl rfl rfl ?_
      refine a_s rfl rfl ?_
      refine a_geti rfl gfX12_194_12 rfl ?_
      refine a_top (y := nI 3) (D9.2.1.trans up2_at) ?_
      refine a_s rfl rfl ?_
      refine a_s rfl rfl ?_
      refine a_top (y := nI 2) (rfl) ?_
      refine a_puti rfl pfX12_194_12 rfl ?_
      have C9 := Cf.deep C2 hd D9
      refine a_l0 rfl rfl rfl ?_
      refine a_s rfl rfl ?_
      refine a_s rfl rfl ?_
      refine a_eV0 rfl lX12_180 mo_X12_emits (r_X12_emits (Cf.st C9) (by omega)) rfl rfl rfl ⟨12, _, rfl, rfl, rfl⟩ rfl ?_
      refine a_s rfl rfl ?_
      exact a_zret rfl rfl rfl (QF.yes (Cf.em (z := 2003) C9 (by decide) (by decide)))
  | false =>
  refine a_if_eq rfl (fun _ => ?_) (fun z => absurd rfl z)
  rw [if_neg (by rw [c21]; decide)] at h2
  have C2 : Cf T e n0 b o I J2 b := Cf.rd C0 h2 (Cf.sk C0)
  rw [atomR_b c40 c21]
  refine a_l0 rfl rfl rfl ?_
  refine a_gV rfl lX12_205 mo_X12_readTag (h_readTag hw (Cf.tt C2 hT) (Cf.rf C2) hB) rfl rfl rfl ⟨12, _, rfl, rfl, rfl⟩ rfl (fun v' h' hv => ?_)
  obtain ⟨z3, x3, J3, p3, rfl, rfl, ht3, hf3⟩ := hv
  cases z3 with
  | true =>
    refine a_if_eq rfl (fun z => absurd z (by decide)) (fun _ => ?_)
    refine a_s rfl rfl ?_
    obtain ⟨hx, D3⟩ := ht3 rfl
    rcases hx with ⟨c22, rfl⟩ | ⟨c22, c23, rfl⟩
    · rw [show baseP T e b o = (true, nx T e b, 1007 :: o) from if_pos c22]
      exact a_zret rfl rfl rfl (QF.yes (Cf.cc C2 D3))
    · rw [show baseP T e b o = (true, nx T e b, 1008 :: o) from (if_neg (by rw [c22]; decide)).trans (if_pos c23)]
      exact a_zret rfl rfl rfl (QF.yes (Cf.cc C2 D3))
  | false =>
  refine a_if_eq rfl (fun _ => ?_) (fun z => absurd rfl z)
  obtain ⟨⟨c22, c23⟩, D3⟩ := hf3 rfl
  have C3 := Cf.cc C2 D3
  have g4 := sumP_gd (T := T) (o := o) hbe
  refine a_l0 rfl rfl rfl ?_
  refine a_gV rfl lX12_208 mo_X12_readSum (h_readSum hw hbt (Cf.tt C3 hT) (Cf.rf C3) hB) rfl rfl rfl ⟨12, _, rfl, rfl, rfl⟩ rfl (fun v' h' hv => ?_)
  obtain ⟨rfl, J4, p4, rfl, hz4, hf4⟩ := hv
  rcases hr4 : sumP T e b o with ⟨z4, b4, o4⟩
  rw [baseP_s c22 c23 hr4]
  rw [hr4] at hz4 hf4 g4
  cases z4 with
  | false =>
    refine a_if_ne rfl (fun z => absurd rfl z) (fun _ => ?_)
    refine a_s rfl rfl ?_
    rw [if_neg (by decide)]
    exact a_zret rfl rfl rfl (Cf.no C3 (hf4 rfl).1 (hf4 rfl).2)
  | true =>
  refine a_if_ne rfl (fun _ => ?_) (fun z => absurd (show (1 : Int32) = 0 from z) (by decide))
  rw [if_pos rfl]
  have C4 : Cf T e n0 b4 o4 I J4 p4 := Cf.cc C3 (hz4 rfl)
  obtain ⟨-, -, g4⟩ := g4
  have g4 : b < b4 ∧ o4.length + b ≤ o.length + b4 := g4 rfl
  have key : ∀ {z5 : Bool} {x : Int32} {p' : Nat} {J : Nat → Nat → Int32}, b4 < nx T e b4 → x = (if z5 = true then 2001 else 2002) → Cf T e n0 (nx T e b4) o4 I J p' → AW S m_X12_readAtom 32 (QF T e n0 (cmpP T e x (nx T e b4) o4) I L w1 w2 t) nX 0 0 152 [some (.ref 420), some (.int (bI z5))] [] (hp J L w1 w2 t) := by
    intro z5 x p' J n4 hx C
    have g6 := sumP_gd (T := T) (o := o4) (Cf.le C)
    refine a_l0 rfl rfl rfl ?_
    refine a_gV rfl lX12_208 mo_X12_readSum (h_readSum hw hbt (Cf.tt C hT) (Cf.rf C) (by omega)) rfl rfl rfl ⟨12, _, rfl, rfl, rfl⟩ rfl (fun v' h' hv => ?_)
    obtain ⟨rfl, J6, p6, rfl, hz6, hf6⟩ := hv
    rcases hr6 : sumP T e (nx T e b4) o4 with ⟨z6, b6, o6⟩
    rw [hr6] at hz6 hf6 g6
    cases z6 with
    | false =>
      refine a_if_ne rfl (fun z => absurd rfl z) (fun _ => ?_)
      refine a_s rfl rfl ?_
      rw [cmpP_f hr6]
      exact a_zret rfl rfl rfl (Cf.no C (hf6 rfl).1 (hf6 rfl).2)
    | true =>
      refine a_if_ne rfl (fun _ => ?_) (fun z => absurd (show (1 : Int32) = 0 from z) (by decide))
      rw [cmpP_t hr6]
      have C6 : Cf T e n0 b6 o6 I J6 p6 := Cf.cc C (hz6 rfl)
      have c6e := Cf.le C6
      obtain ⟨-, -, g6⟩ := g6
      have g6 : nx T e b4 < b6 ∧ o6.length + nx T e b4 ≤ o4.length + b6 := g6 rfl
      refine a_l0 rfl rfl rfl ?_
      refine a_l1 rfl rfl rfl ?_
      cases z5 with
      | false =>
        rw [if_neg (by decide)] at hx
        subst hx
        refine a_if_eq rfl (fun _ => ?_) (fun c => absurd rfl c)
        refine a_s rfl rfl ?_
        refine a_s rfl rfl ?_
        refine a_eV0 rfl lX12_180 mo_X12_emits (r_X12_emits (Cf.st C6) (by omega)) rfl rfl rfl ⟨12, _, rfl, rfl, rfl⟩ rfl ?_
        refine a_s rfl rfl ?_
        exact a_zret rfl rfl rfl (QF.yes (Cf.em (z := 2002) C6 (by decide) (by decide)))
      | true =>
        rw [if_pos rfl] at hx
        subst hx
        refine a_if_eq rfl (fun c => absurd c (by decide)) (fun _ => ?_)
        refine a_s rfl rfl ?_
        refine a_goto rfl ?_
        refine a_s rfl rfl ?_
        refine a_eV0 rfl lX12_180 mo_X12_emits (r_X12_emits (Cf.st C6) (by omega)) rfl rfl rfl ⟨12, _, rfl, rfl, rfl⟩ rfl ?_
        refine a_s rfl rfl ?_
        exact a_zret rfl rfl rfl (QF.yes (Cf.em (z := 2001) C6 (by decide) (by decide)))
  have eT4 := Cf.tt C4 hT
  refine a_l0 rfl rfl rfl ?_
  refine a_s rfl rfl ?_
  refine a_gV rfl lX12_187 mo_X12_sign (h_sign (b := b4) (c := 60) (by rw [eT4]; exact hbt) (by decide) (Cf.pp C4) (by rw [eT4]; exact Cf.nb C4)) rfl rfl rfl ⟨12, _, rfl, rfl, rfl⟩ rfl (fun v' h' hv => ?_)
  obtain ⟨rfl, J5, rfl, h5⟩ := hv
  rw [eT4] at h5 ⊢
  refine a_s1 rfl rfl rfl rfl rfl rfl ?_
  refine a_l1 rfl rfl rfl ?_
  cases c60 : sg T e b4 (nI 60) with
  | true =>
    have c60 : sg T e b4 60 = true := c60
    refine a_if_ne rfl (fun _ => ?_) (fun z => absurd (show (1 : Int32) = 0 from z) (by decide))
    rw [if_pos (show sg T e b4 (nI 60) = true from c60)] at h5
    rw [if_pos c60]
    exact key (z5 := true) (nx_lt (sg_lt c60)) rfl (Cf.rd C4 h5 rfl)
  | false =>
  have c60 : sg T e b4 60 = false := c60
  refine a_if_ne rfl (fun z => absurd rfl z) (fun _ => ?_)
  rw [if_neg (by rw [show sg T e b4 (nI 60) = false from c60]; decide)] at h5
  rw [if_neg (by rw [c60]; decide)]
  have C5 : Cf T e n0 b4 o4 I J5 b4 := Cf.rd C4 h5 (Cf.sk C4)
  have eT5 := Cf.tt C5 hT
  refine a_l0 rfl rfl rfl ?_
  refine a_s rfl rfl ?_
  refine a_gV rfl lX12_187 mo_X12_sign (h_sign (b := b4) (c := 62) (by rw [eT5]; exact hbt) (by decide) (Cf.pp C5) (by rw [eT5]; exact Cf.nb C5)) rfl rfl rfl ⟨12, _, rfl, rfl, rfl⟩ rfl (fun v' h' hv => ?_)
  obtain ⟨rfl, J7, rfl, h7⟩ := hv
  rw [eT5] at h7 ⊢
  cases c62 : sg T e b4 (nI 62) with
  | false =>
    have c62 : sg T e b4 62 = false := c62
    refine a_if_eq rfl (fun _ => ?_) (fun z => absurd rfl z)
    rw [if_neg (by rw [show sg T e b4 (nI 62) = false from c62]; decide)] at h7
    rw [if_neg (by rw [c62]; decide)]
    refine a_s rfl rfl ?_
    exact a_zret rfl rfl rfl (QF.no (Fm.tr C5.1 (Fm.mo (Rd.fm h7) sR_sY)) (Rd.be h7))
  | true =>
    have c62 : sg T e b4 62 = true := c62
    refine a_if_eq rfl (fun z => absurd z (by decide)) (fun _ => ?_)
    rw [if_pos (show sg T e b4 (nI 62) = true from c62)] at h7
    rw [if_pos c62]
    exact key (z5 := false) (nx_lt (sg_lt c62)) rfl (Cf.rd C5 h7 rfl)
theorem h_readAllOf_2 (hw : WdS S) (hbt : BtT T) (hT : I 426 = T) (hd : I 420 13 = nI 2) (h : Cf T e n0 b o I I p) (hB : o.length < b) : Sp S m_X12_readAllOf 33 0 0 [.ref 420] (hp I L w1 w2 t) (QF T e n0 (seqP T e (atomR T e 4) 20 2004 b o) I L w1 w2 t) nX := by
  have he4 := Cf.e4 h
  have g0 := atomR_gdo (T := T) (D := 4) (o := o) (Cf.le h)
  refine Sp_of ok_X12_readAllOf rfl rfl ?_
  show AW S m_X12_readAllOf 33 _ _ 0 0 0 [some (.ref 420)] [] (hp I L w1 w2 t)
  refine a_l0 rfl rfl rfl ?_
  refine a_gV rfl lX12_202 mo_X12_readAtom (h_readAtom_2 hw hbt hT hd h hB) rfl rfl rfl ⟨12, _, rfl, rfl, rfl⟩ rfl (fun v' h' hv => ?_)
  obtain ⟨rfl, J1, p1, rfl, hz1, hf1⟩ := hv
  rcases hr : (atomR T e 4) b o with ⟨z, b1, o1⟩
  rw [seqP_of hr]
  rw [hr] at hz1 hf1 g0
  cases z with
  | false =>
    refine a_if_ne rfl (fun z => absurd rfl z) (fun _ => ?_)
    refine a_s rfl rfl ?_
    rw [if_neg (by decide)]
    exact a_zret rfl rfl rfl (QF.no (hf1 rfl).1 (hf1 rfl).2)
  | true =>
  refine a_if_ne rfl (fun _ => ?_) (fun z => absurd (show (1 : Int32) = 0 from z) (by decide))
  rw [if_pos rfl]
  obtain ⟨-, -, g3⟩ := g0
  have g3 : b < b1 ∧ o1.length + b ≤ o.length + b1 := g3 rfl
  generalize hR : loopP T e (atomR T e 4) 20 2004 b1 o1 = R
  refine a_inv (n := e - b1) (fun m ls h => ls = [some (.ref 420)] ∧ ∃ J p' b' o', h = hp J L w1 w2 t ∧ Cf T e n0 b' o' I J p' ∧ o'.length < b' ∧ loopP T e (atomR T e 4) 20 2004 b' o' = R ∧ m = e - b') ⟨rfl, J1, p1, _, _, rfl, hz1 rfl, by show o1.length < b1; omega, hR, rfl⟩ ?_
  rintro m _ _ ⟨rfl, J, p', b', o', rfl, C, hB', es, hm⟩ ih
  have eT := Cf.tt C hT
  refine a_l0 rfl rfl rfl ?_
  refine a_ldcs (q := 130 + 20) rfl (hw.ld (i := 20) (by decide)) ?_
  refine a_gV rfl lX12_128 mo_X12_passes (h_passes (b := b') (k := 20) hw (by decide) (Cf.pp C) (by rw [eT]; exact Cf.nb C)) rfl rfl rfl ⟨12, _, rfl, rfl, rfl⟩ rfl (fun v' h' hv => ?_)
  obtain ⟨rfl, J2, rfl, h2⟩ := hv
  rw [eT] at h2 ⊢
  cases cw : isWd T e b' 20 with
  | false =>
    refine a_if_eq rfl (fun _ => ?_) (fun z => absurd rfl z)
    rw [if_neg (by rw [cw]; decide)] at h2
    refine a_s rfl rfl ?_
    rw [← es, loopP_f cw]
    exact a_zret rfl rfl rfl (QF.yes (Cf.rd C h2 (Cf.sk C)))
  | true =>
    refine a_if_eq rfl (fun z => absurd z (by decide)) (fun _ => ?_)
    rw [if_pos cw] at h2
    have n2 := nx_lt (T := T) (isWd_lt cw)
    have C2 : Cf T e n0 (nx T e b') o' I J2 (en T e b') := Cf.rd C h2 rfl
    have n2e := Cf.le C2
    have g4 := atomR_gdo (T := T) (D := 4) (o := o') n2e
    refine a_l0 rfl rfl rfl ?_
    refine a_gV rfl lX12_202 mo_X12_readAtom (h_readAtom_2 hw hbt (Cf.tt C2 hT) (Cf.d C2 hd) (Cf.rf C2) (by omega)) rfl rfl rfl ⟨12, _, rfl, rfl, rfl⟩ rfl (fun v' h' hv => ?_)
    obtain ⟨rfl, J3, p3, rfl, hz3, hf3⟩ := hv
    have el := fun g => loopP_t (op := 2004) (o := o') (item := atomR T e 4) cw g
    have en' := loopP_n (op := 2004) (o := o') (item := atomR T e 4) cw
    rcases hr2 : (atomR T e 4) (nx T e b') o' with ⟨z2, b2, o2⟩
    rw [hr2] at hz3 hf3 g4 el en'
    cases z2 with
    | false =>
      refine a_if_ne rfl (fun z => absurd rfl z) (fun _ => ?_)
      refine a_s rfl rfl ?_
      rw [← es, en' Bool.false_ne_true]
      exact a_zret rfl rfl rfl (Cf.no C2 (hf3 rfl).1 (hf3 rfl).2)
    | true =>
      refine a_if_ne rfl (fun _ => ?_) (fun z => absurd (show (1 : Int32) = 0 from z) (by decide))
      have C3 : Cf T e n0 b2 o2 I J3 p3 := Cf.cc C2 (hz3 rfl)
      have c3e := Cf.le C3
      obtain ⟨-, -, g5⟩ := g4
      have g5 : nx T e b' < b2 ∧ o2.length + nx T e b' ≤ o'.length + b2 := g5 rfl
      have es2 : loopP T e (atomR T e 4) 20 2004 b2 (2004 :: o2) = R := (el (by show b' < b2; omega) rfl).symm.trans es
      refine a_l0 rfl rfl rfl ?_
      refine a_s rfl rfl ?_
      refine a_s rfl rfl ?_
      refine a_eV0 rfl lX12_180 mo_X12_emits (r_X12_emits (Cf.st C3) (by omega)) rfl rfl rfl ⟨12, _, rfl, rfl, rfl⟩ rfl ?_
      refine a_goto rfl ?_
      exact ih (e - b2) _ _ (by omega) ⟨rfl, _, p3, b2, _, rfl, Cf.em (z := 2004) C3 (by decide) (by decide), by show o2.length + 1 < b2; omega, es2, rfl⟩
theorem h_readCond_2 (hw : WdS S) (hbt : BtT T) (hT : I 426 = T) (hd : I 420 13 = nI 2) (h : Cf T e n0 b o I I p) (hB : o.length < b) : Sp S m_X12_readCond 34 0 0 [.ref 420] (hp I L w1 w2 t) (QF T e n0 (seqP T e (seqP T e (atomR T e 4) 20 2004) 19 2005 b o) I L w1 w2 t) nX := by
  have he4 := Cf.e4 h
  have g0 := seqA_gd (T := T) (D := 4) (o := o) (Cf.le h)
  refine Sp_of ok_X12_readCond rfl rfl ?_
  show AW S m_X12_readCond 34 _ _ 0 0 0 [some (.ref 420)] [] (hp I L w1 w2 t)
  refine a_l0 rfl rfl rfl ?_
  refine a_gV rfl lX12_213 mo_X12_readAllOf (h_readAllOf_2 hw hbt hT hd h hB) rfl rfl rfl ⟨12, _, rfl, rfl, rfl⟩ rfl (fun v' h' hv => ?_)
  obtain ⟨rfl, J1, p1, rfl, hz1, hf1⟩ := hv
  rcases hr : (seqP T e (atomR T e 4) 20 2004) b o with ⟨z, b1, o1⟩
  rw [seqP_of hr]
  rw [hr] at hz1 hf1 g0
  cases z with
  | false =>
    refine a_if_ne rfl (fun z => absurd rfl z) (fun _ => ?_)
    refine a_s rfl rfl ?_
    rw [if_neg (by decide)]
    exact a_zret rfl rfl rfl (QF.no (hf1 rfl).1 (hf1 rfl).2)
  | true =>
  refine a_if_ne rfl (fun _ => ?_) (fun z => absurd (show (1 : Int32) = 0 from z) (by decide))
  rw [if_pos rfl]
  obtain ⟨-, -, g3⟩ := g0
  have g3 : b < b1 ∧ o1.length + b ≤ o.length + b1 := g3 rfl
  generalize hR : loopP T e (seqP T e (atomR T e 4) 20 2004) 19 2005 b1 o1 = R
  refine a_inv (n := e - b1) (fun m ls h => ls = [some (.ref 420)] ∧ ∃ J p' b' o', h = hp J L w1 w2 t ∧ Cf T e n0 b' o' I J p' ∧ o'.length < b' ∧ loopP T e (seqP T e (atomR T e 4) 20 2004) 19 2005 b' o' = R ∧ m = e - b') ⟨rfl, J1, p1, _, _, rfl, hz1 rfl, by show o1.length < b1; omega, hR, rfl⟩ ?_
  rintro m _ _ ⟨rfl, J, p', b', o', rfl, C, hB', es, hm⟩ ih
  have eT := Cf.tt C hT
  refine a_l0 rfl rfl rfl ?_
  refine a_ldcs (q := 130 + 19) rfl (hw.ld (i := 19) (by decide)) ?_
  refine a_gV rfl lX12_128 mo_X12_passes (h_passes (b := b') (k := 19) hw (by decide) (Cf.pp C) (by rw [eT]; exact Cf.nb C)) rfl rfl rfl ⟨12, _, rfl, rfl, rfl⟩ rfl (fun v' h' hv => ?_)
  obtain ⟨rfl, J2, rfl, h2⟩ := hv
  rw [eT] at h2 ⊢
  cases cw : isWd T e b' 19 with
  | false =>
    refine a_if_eq rfl (fun _ => ?_) (fun z => absurd rfl z)
    rw [if_neg (by rw [cw]; decide)] at h2
    refine a_s rfl rfl ?_
    rw [← es, loopP_f cw]
    exact a_zret rfl rfl rfl (QF.yes (Cf.rd C h2 (Cf.sk C)))
  | true =>
    refine a_if_eq rfl (fun z => absurd z (by decide)) (fun _ => ?_)
    rw [if_pos cw] at h2
    have n2 := nx_lt (T := T) (isWd_lt cw)
    have C2 : Cf T e n0 (nx T e b') o' I J2 (en T e b') := Cf.rd C h2 rfl
    have n2e := Cf.le C2
    have g4 := seqA_gd (T := T) (D := 4) (o := o') n2e
    refine a_l0 rfl rfl rfl ?_
    refine a_gV rfl lX12_213 mo_X12_readAllOf (h_readAllOf_2 hw hbt (Cf.tt C2 hT) (Cf.d C2 hd) (Cf.rf C2) (by omega)) rfl rfl rfl ⟨12, _, rfl, rfl, rfl⟩ rfl (fun v' h' hv => ?_)
    obtain ⟨rfl, J3, p3, rfl, hz3, hf3⟩ := hv
    have el := fun g => loopP_t (op := 2005) (o := o') (item := seqP T e (atomR T e 4) 20 2004) cw g
    have en' := loopP_n (op := 2005) (o := o') (item := seqP T e (atomR T e 4) 20 2004) cw
    rcases hr2 : (seqP T e (atomR T e 4) 20 2004) (nx T e b') o' with ⟨z2, b2, o2⟩
    rw [hr2] at hz3 hf3 g4 el en'
    cases z2 with
    | false =>
      refine a_if_ne rfl (fun z => absurd rfl z) (fun _ => ?_)
      refine a_s rfl rfl ?_
      rw [← es, en' Bool.false_ne_true]
      exact a_zret rfl rfl rfl (Cf.no C2 (hf3 rfl).1 (hf3 rfl).2)
    | true =>
      refine a_if_ne rfl (fun _ => ?_) (fun z => absurd (show (1 : Int32) = 0 from z) (by decide))
      have C3 : Cf T e n0 b2 o2 I J3 p3 := Cf.cc C2 (hz3 rfl)
      have c3e := Cf.le C3
      obtain ⟨-, -, g5⟩ := g4
      have g5 : nx T e b' < b2 ∧ o2.length + nx T e b' ≤ o'.length + b2 := g5 rfl
      have es2 : loopP T e (seqP T e (atomR T e 4) 20 2004) 19 2005 b2 (2005 :: o2) = R := (el (by show b' < b2; omega) rfl).symm.trans es
      refine a_l0 rfl rfl rfl ?_
      refine a_s rfl rfl ?_
      refine a_s rfl rfl ?_
      refine a_eV0 rfl lX12_180 mo_X12_emits (r_X12_emits (Cf.st C3) (by omega)) rfl rfl rfl ⟨12, _, rfl, rfl, rfl⟩ rfl ?_
      refine a_goto rfl ?_
      exact ih (e - b2) _ _ (by omega) ⟨rfl, _, p3, b2, _, rfl, Cf.em (z := 2005) C3 (by decide) (by decide), by show o2.length + 1 < b2; omega, es2, rfl⟩
theorem h_readAtom_1 (hw : WdS S) (hbt : BtT T) (hT : I 426 = T) (hd : I 420 13 = nI 1) (h : Cf T e n0 b o I I p) (hB : o.length < b) : Sp S m_X12_readAtom 35 0 0 [.ref 420] (hp I L w1 w2 t) (QF T e n0 (atomR T e 5 b o) I L w1 w2 t) nX := by
  have he4 := Cf.e4 h
  have hbe := Cf.le h
  refine Sp_of ok_X12_readAtom rfl rfl ?_
  show AW S m_X12_readAtom 35 _ _ 0 0 0 [some (.ref 420), none] [] (hp I L w1 w2 t)
  refine a_l0 rfl rfl rfl ?_
  refine a_s rfl rfl ?_
  refine a_gV rfl lX12_187 mo_X12_sign (h_sign (b := b) (c := 40) (by rw [hT]; exact hbt) (by decide) (Cf.pp h) (by rw [hT]; exact Cf.nb h)) rfl rfl rfl ⟨12, _, rfl, rfl, rfl⟩ rfl (fun v' h' hv => ?_)
  obtain ⟨rfl, J1, rfl, h1⟩ := hv
  rw [hT] at h1 ⊢
  cases c40 : sg T e b (nI 40) with
  | true =>
    have c40 : sg T e b 40 = true := c40
    refine a_if_eq rfl (fun z => absurd z (by decide)) (fun _ => ?_)
    rw [if_pos (show sg T e b (nI 40) = true from c40)] at h1
    have n1 := nx_lt (T := T) (sg_lt c40)
    have C1 : Cf T e n0 (nx T e b) o I J1 (en T e b) := Cf.rd h h1 rfl
    refine a_l0 rfl rfl rfl ?_
    refine a_geti rfl gfX12_194_12 rfl ?_
    refine a_top (y := nI 1) (Cf.d C1 hd) ?_
    refine a_s rfl rfl ?_
    refine a_ic_ne rfl (fun _ => ?_) (fun c => absurd c (by decide))
    refine a_l0 rfl rfl rfl ?_
    refine a_s rfl rfl ?_
    refine a_geti rfl gfX12_194_12 rfl ?_
    refine a_top (y := nI 1) (Cf.d C1 hd) ?_
    refine a_s rfl rfl ?_
    refine a_s rfl rfl ?_
    refine a_top (y := nI 2) (rfl) ?_
    refine a_puti rfl pfX12_194_12 rfl ?_
    refine a_l0 rfl rfl rfl ?_
    have g4 := cndP_gd (T := T) (fun b o h => atomR_gd (T := T) 4 b o h) (o := o) (Cf.le C1)
    refine a_gV rfl lX12_197 mo_X12_readCond (h_readCond_2 hw hbt ((up2_row (by decide)).trans (Cf.tt C1 hT)) up2_at (Cf.up13 C1) (by omega)) rfl rfl rfl ⟨12, _, rfl, rfl, rfl⟩ rfl (fun v' h' hv => ?_)
    obtain ⟨rfl, J9, p9, rfl, hz9, hf9⟩ := hv
    rw [show seqP T e (seqP T e (atomR T e 4) 20 2004) 19 2005 = cndP T e (atomR T e 4) from rfl] at hz9 hf9 ⊢
    rcases hr9 : cndP T e (atomR T e 4) (nx T e b) o with ⟨z9, b9, o9⟩
    rw [hr9] at hz9 hf9 g4
    rw [atomR_p c40 hr9]
    cases z9 with
    | false =>
      refine a_if_ne rfl (fun z => absurd rfl z) (fun _ => ?_)
      refine a_s rfl rfl ?_
      rw [if_neg (by decide)]
      exact a_zret rfl rfl rfl (QF.no (Fm.tr C1.1 (Fm.tr (Fm.up Fm.rf rfl) (hf9 rfl).1)) (hf9 rfl).2)
    | true =>
      refine a_if_ne rfl (fun _ => ?_) (fun z => absurd (show (1 : Int32) = 0 from z) (by decide))
      rw [if_pos rfl]
      have D9 : Cf T e n0 b9 o9 (up2 J1 420 13 (nI 2)) J9 p9 := hz9 rfl
      refine a_l0 rfl rfl rfl ?_
      refine a_s rfl rfl ?_
      refine a_geti rfl gfX12_194_12 rfl ?_
      refine a_top (y := nI 2) (D9.2.1.trans up2_at) ?_
      refine a_s rfl rfl ?_
      refine a_s rfl rfl ?_
      refine a_top (y := nI 1) (rfl) ?_
      refine a_puti rfl pfX12_194_12 rfl ?_
      have C9 := Cf.deep C1 hd D9
      have eT9 := Cf.tt C9 hT
      refine a_l0 rfl rfl rfl ?_
      refine a_s rfl rfl ?_
      refine a_gV rfl lX12_187 mo_X12_sign (h_sign (b := b9) (c := 41) (by rw [eT9]; exact hbt) (by decide) (Cf.pp C9) (by rw [eT9]; exact Cf.nb C9)) rfl rfl rfl ⟨12, _, rfl, rfl, rfl⟩ rfl (fun v' h' hv => ?_)
      obtain ⟨rfl, J3, rfl, h3⟩ := hv
      rw [eT9] at h3 ⊢
      cases c41 : sg T e b9 (nI 41) with
      | false =>
        have c41 : sg T e b9 41 = false := c41
        rw [if_neg (by rw [show sg T e b9 (nI 41) = false from c41]; decide)] at h3
        rw [if_neg (by rw [c41]; decide)]
        exact a_zret rfl rfl rfl (QF.no (Fm.tr C9.1 (Fm.mo (Rd.fm h3) sR_sY)) (Rd.be h3))
      | true =>
        have c41 : sg T e b9 41 = true := c41
        rw [if_pos (show sg T e b9 (nI 41) = true from c41)] at h3
        rw [if_pos c41]
        exact a_zret rfl rfl rfl (QF.yes (Cf.rd C9 h3 rfl))
  | false =>
  have c40 : sg T e b 40 = false := c40
  refine a_if_eq rfl (fun _ => ?_) (fun z => absurd rfl z)
  rw [if_neg (by rw [show sg T e b (nI 40) = false from c40]; decide)] at h1
  have C0 : Cf T e n0 b o I J1 b := Cf.rd h h1 (Cf.sk h)
  have eT0 := Cf.tt C0 hT
  refine a_l0 rfl rfl rfl ?_
  refine a_ldcs (q := 130 + 21) rfl (hw.ld (i := 21) (by decide)) ?_
  refine a_gV rfl lX12_128 mo_X12_passes (h_passes (b := b) (k := 21) hw (by decide) (Cf.pp C0) (by rw [eT0]; exact Cf.nb C0)) rfl rfl rfl ⟨12, _, rfl, rfl, rfl⟩ rfl (fun v' h' hv => ?_)
  obtain ⟨rfl, J2, rfl, h2⟩ := hv
  rw [eT0] at h2 ⊢
  cases c21 : isWd T e b 21 with
  | true =>
    refine a_if_eq rfl (fun z => absurd z (by decide)) (fun _ => ?_)
    rw [if_pos c21] at h2
    have n1 := nx_lt (T := T) (isWd_lt c21)
    have C2 : Cf T e n0 (nx T e b) o I J2 (en T e b) := Cf.rd C0 h2 rfl
    refine a_l0 rfl rfl rfl ?_
    refine a_geti rfl gfX12_194_12 rfl ?_
    refine a_top (y := nI 1) (Cf.d C2 hd) ?_
    refine a_s rfl rfl ?_
    refine a_ic_ne rfl (fun _ => ?_) (fun c => absurd c (by decide))
    refine a_l0 rfl rfl rfl ?_
    refine a_s rfl rfl ?_
    refine a_geti rfl gfX12_194_12 rfl ?_
    refine a_top (y := nI 1) (Cf.d C2 hd) ?_
    refine a_s rfl rfl ?_
    refine a_s rfl rfl ?_
    refine a_top (y := nI 2) (rfl) ?_
    refine a_puti rfl pfX12_194_12 rfl ?_
    refine a_l0 rfl rfl rfl ?_
    have g4 := atomR_gdo (T := T) (D := 4) (o := o) (Cf.le C2)
    refine a_gV rfl lX12_202 mo_X12_readAtom (h_readAtom_2 hw hbt ((up2_row (by decide)).trans (Cf.tt C2 hT)) up2_at (Cf.up13 C2) (by omega)) rfl rfl rfl ⟨12, _, rfl, rfl, rfl⟩ rfl (fun v' h' hv => ?_)
    obtain ⟨rfl, J9, p9, rfl, hz9, hf9⟩ := hv
    rcases hr9 : atomR T e 4 (nx T e b) o with ⟨z9, b9, o9⟩
    rw [hr9] at hz9 hf9 g4
    rw [atomR_n c40 c21 hr9]
    cases z9 with
    | false =>
      refine a_if_ne rfl (fun z => absurd rfl z) (fun _ => ?_)
      refine a_s rfl rfl ?_
      rw [if_neg (by decide)]
      exact a_zret rfl rfl rfl (QF.no (Fm.tr C2.1 (Fm.tr (Fm.up Fm.rf rfl) (hf9 rfl).1)) (hf9 rfl).2)
    | true =>
      refine a_if_ne rfl (fun _ => ?_) (fun z => absurd (show (1 : Int32) = 0 from z) (by decide))
      rw [if_pos rfl]
      have D9 : Cf T e n0 b9 o9 (up2 J2 420 13 (nI 2)) J9 p9 := hz9 rfl
      obtain ⟨-, -, g5⟩ := g4
      have g5 : nx T e b < b9 ∧ o9.length + nx T e b ≤ o.length + b9 := g5 rfl
      have c9e := Cf.le D9
      refine a_l0 rfl rfl rfl ?_
      refine a_s rfl rfl ?_
      refine a_geti rfl gfX12_194_12 rfl ?_
      refine a_top (y := nI 2) (D9.2.1.trans up2_at) ?_
      refine a_s rfl rfl ?_
      refine a_s rfl rfl ?_
      refine a_top (y := nI 1) (rfl) ?_
      refine a_puti rfl pfX12_194_12 rfl ?_
      have C9 := Cf.deep C2 hd D9
      refine a_l0 rfl rfl rfl ?_
      refine a_s rfl rfl ?_
      refine a_s rfl rfl ?_
      refine a_eV0 rfl lX12_180 mo_X12_emits (r_X12_emits (Cf.st C9) (by omega)) rfl rfl rfl ⟨12, _, rfl, rfl, rfl⟩ rfl ?_
      refine a_s rfl rfl ?_
      exact a_zret rfl rfl rfl (QF.yes (Cf.em (z := 2003) C9 (by decide) (by decide)))
  | false =>
  refine a_if_eq rfl (fun _ => ?_) (fun z => absurd rfl z)
  rw [if_neg (by rw [c21]; decide)] at h2
  have C2 : Cf T e n0 b o I J2 b := Cf.rd C0 h2 (Cf.sk C0)
  rw [atomR_b c40 c21]
  refine a_l0 rfl rfl rfl ?_
  refine a_gV rfl lX12_205 mo_X12_readTag (h_readTag hw (Cf.tt C2 hT) (Cf.rf C2) hB) rfl rfl rfl ⟨12, _, rfl, rfl, rfl⟩ rfl (fun v' h' hv => ?_)
  obtain ⟨z3, x3, J3, p3, rfl, rfl, ht3, hf3⟩ := hv
  cases z3 with
  | true =>
    refine a_if_eq rfl (fun z => absurd z (by decide)) (fun _ => ?_)
    refine a_s rfl rfl ?_
    obtain ⟨hx, D3⟩ := ht3 rfl
    rcases hx with ⟨c22, rfl⟩ | ⟨c22, c23, rfl⟩
    · rw [show baseP T e b o = (true, nx T e b, 1007 :: o) from if_pos c22]
      exact a_zret rfl rfl rfl (QF.yes (Cf.cc C2 D3))
    · rw [show baseP T e b o = (true, nx T e b, 1008 :: o) from (if_neg (by rw [c22]; decide)).trans (if_pos c23)]
      exact a_zret rfl rfl rfl (QF.yes (Cf.cc C2 D3))
  | false =>
  refine a_if_eq rfl (fun _ => ?_) (fun z => absurd rfl z)
  obtain ⟨⟨c22, c23⟩, D3⟩ := hf3 rfl
  have C3 := Cf.cc C2 D3
  have g4 := sumP_gd (T := T) (o := o) hbe
  refine a_l0 rfl rfl rfl ?_
  refine a_gV rfl lX12_208 mo_X12_readSum (h_readSum hw hbt (Cf.tt C3 hT) (Cf.rf C3) hB) rfl rfl rfl ⟨12, _, rfl, rfl, rfl⟩ rfl (fun v' h' hv => ?_)
  obtain ⟨rfl, J4, p4, rfl, hz4, hf4⟩ := hv
  rcases hr4 : sumP T e b o with ⟨z4, b4, o4⟩
  rw [baseP_s c22 c23 hr4]
  rw [hr4] at hz4 hf4 g4
  cases z4 with
  | false =>
    refine a_if_ne rfl (fun z => absurd rfl z) (fun _ => ?_)
    refine a_s rfl rfl ?_
    rw [if_neg (by decide)]
    exact a_zret rfl rfl rfl (Cf.no C3 (hf4 rfl).1 (hf4 rfl).2)
  | true =>
  refine a_if_ne rfl (fun _ => ?_) (fun z => absurd (show (1 : Int32) = 0 from z) (by decide))
  rw [if_pos rfl]
  have C4 : Cf T e n0 b4 o4 I J4 p4 := Cf.cc C3 (hz4 rfl)
  obtain ⟨-, -, g4⟩ := g4
  have g4 : b < b4 ∧ o4.length + b ≤ o.length + b4 := g4 rfl
  have key : ∀ {z5 : Bool} {x : Int32} {p' : Nat} {J : Nat → Nat → Int32}, b4 < nx T e b4 → x = (if z5 = true then 2001 else 2002) → Cf T e n0 (nx T e b4) o4 I J p' → AW S m_X12_readAtom 35 (QF T e n0 (cmpP T e x (nx T e b4) o4) I L w1 w2 t) nX 0 0 152 [some (.ref 420), some (.int (bI z5))] [] (hp J L w1 w2 t) := by
    intro z5 x p' J n4 hx C
    have g6 := sumP_gd (T := T) (o := o4) (Cf.le C)
    refine a_l0 rfl rfl rfl ?_
    refine a_gV rfl lX12_208 mo_X12_readSum (h_readSum hw hbt (Cf.tt C hT) (Cf.rf C) (by omega)) rfl rfl rfl ⟨12, _, rfl, rfl, rfl⟩ rfl (fun v' h' hv => ?_)
    obtain ⟨rfl, J6, p6, rfl, hz6, hf6⟩ := hv
    rcases hr6 : sumP T e (nx T e b4) o4 with ⟨z6, b6, o6⟩
    rw [hr6] at hz6 hf6 g6
    cases z6 with
    | false =>
      refine a_if_ne rfl (fun z => absurd rfl z) (fun _ => ?_)
      refine a_s rfl rfl ?_
      rw [cmpP_f hr6]
      exact a_zret rfl rfl rfl (Cf.no C (hf6 rfl).1 (hf6 rfl).2)
    | true =>
      refine a_if_ne rfl (fun _ => ?_) (fun z => absurd (show (1 : Int32) = 0 from z) (by decide))
      rw [cmpP_t hr6]
      have C6 : Cf T e n0 b6 o6 I J6 p6 := Cf.cc C (hz6 rfl)
      have c6e := Cf.le C6
      obtain ⟨-, -, g6⟩ := g6
      have g6 : nx T e b4 < b6 ∧ o6.length + nx T e b4 ≤ o4.length + b6 := g6 rfl
      refine a_l0 rfl rfl rfl ?_
      refine a_l1 rfl rfl rfl ?_
      cases z5 with
      | false =>
        rw [if_neg (by decide)] at hx
        subst hx
        refine a_if_eq rfl (fun _ => ?_) (fun c => absurd rfl c)
        refine a_s rfl rfl ?_
        refine a_s rfl rfl ?_
        refine a_eV0 rfl lX12_180 mo_X12_emits (r_X12_emits (Cf.st C6) (by omega)) rfl rfl rfl ⟨12, _, rfl, rfl, rfl⟩ rfl ?_
        refine a_s rfl rfl ?_
        exact a_zret rfl rfl rfl (QF.yes (Cf.em (z := 2002) C6 (by decide) (by decide)))
      | true =>
        rw [if_pos rfl] at hx
        subst hx
        refine a_if_eq rfl (fun c => absurd c (by decide)) (fun _ => ?_)
        refine a_s rfl rfl ?_
        refine a_goto rfl ?_
        refine a_s rfl rfl ?_
        refine a_eV0 rfl lX12_180 mo_X12_emits (r_X12_emits (Cf.st C6) (by omega)) rfl rfl rfl ⟨12, _, rfl, rfl, rfl⟩ rfl ?_
        refine a_s rfl rfl ?_
        exact a_zret rfl rfl rfl (QF.yes (Cf.em (z := 2001) C6 (by decide) (by decide)))
  have eT4 := Cf.tt C4 hT
  refine a_l0 rfl rfl rfl ?_
  refine a_s rfl rfl ?_
  refine a_gV rfl lX12_187 mo_X12_sign (h_sign (b := b4) (c := 60) (by rw [eT4]; exact hbt) (by decide) (Cf.pp C4) (by rw [eT4]; exact Cf.nb C4)) rfl rfl rfl ⟨12, _, rfl, rfl, rfl⟩ rfl (fun v' h' hv => ?_)
  obtain ⟨rfl, J5, rfl, h5⟩ := hv
  rw [eT4] at h5 ⊢
  refine a_s1 rfl rfl rfl rfl rfl rfl ?_
  refine a_l1 rfl rfl rfl ?_
  cases c60 : sg T e b4 (nI 60) with
  | true =>
    have c60 : sg T e b4 60 = true := c60
    refine a_if_ne rfl (fun _ => ?_) (fun z => absurd (show (1 : Int32) = 0 from z) (by decide))
    rw [if_pos (show sg T e b4 (nI 60) = true from c60)] at h5
    rw [if_pos c60]
    exact key (z5 := true) (nx_lt (sg_lt c60)) rfl (Cf.rd C4 h5 rfl)
  | false =>
  have c60 : sg T e b4 60 = false := c60
  refine a_if_ne rfl (fun z => absurd rfl z) (fun _ => ?_)
  rw [if_neg (by rw [show sg T e b4 (nI 60) = false from c60]; decide)] at h5
  rw [if_neg (by rw [c60]; decide)]
  have C5 : Cf T e n0 b4 o4 I J5 b4 := Cf.rd C4 h5 (Cf.sk C4)
  have eT5 := Cf.tt C5 hT
  refine a_l0 rfl rfl rfl ?_
  refine a_s rfl rfl ?_
  refine a_gV rfl lX12_187 mo_X12_sign (h_sign (b := b4) (c := 62) (by rw [eT5]; exact hbt) (by decide) (Cf.pp C5) (by rw [eT5]; exact Cf.nb C5)) rfl rfl rfl ⟨12, _, rfl, rfl, rfl⟩ rfl (fun v' h' hv => ?_)
  obtain ⟨rfl, J7, rfl, h7⟩ := hv
  rw [eT5] at h7 ⊢
  cases c62 : sg T e b4 (nI 62) with
  | false =>
    have c62 : sg T e b4 62 = false := c62
    refine a_if_eq rfl (fun _ => ?_) (fun z => absurd rfl z)
    rw [if_neg (by rw [show sg T e b4 (nI 62) = false from c62]; decide)] at h7
    rw [if_neg (by rw [c62]; decide)]
    refine a_s rfl rfl ?_
    exact a_zret rfl rfl rfl (QF.no (Fm.tr C5.1 (Fm.mo (Rd.fm h7) sR_sY)) (Rd.be h7))
  | true =>
    have c62 : sg T e b4 62 = true := c62
    refine a_if_eq rfl (fun z => absurd z (by decide)) (fun _ => ?_)
    rw [if_pos (show sg T e b4 (nI 62) = true from c62)] at h7
    rw [if_pos c62]
    exact key (z5 := false) (nx_lt (sg_lt c62)) rfl (Cf.rd C5 h7 rfl)
theorem h_readAllOf_1 (hw : WdS S) (hbt : BtT T) (hT : I 426 = T) (hd : I 420 13 = nI 1) (h : Cf T e n0 b o I I p) (hB : o.length < b) : Sp S m_X12_readAllOf 36 0 0 [.ref 420] (hp I L w1 w2 t) (QF T e n0 (seqP T e (atomR T e 5) 20 2004 b o) I L w1 w2 t) nX := by
  have he4 := Cf.e4 h
  have g0 := atomR_gdo (T := T) (D := 5) (o := o) (Cf.le h)
  refine Sp_of ok_X12_readAllOf rfl rfl ?_
  show AW S m_X12_readAllOf 36 _ _ 0 0 0 [some (.ref 420)] [] (hp I L w1 w2 t)
  refine a_l0 rfl rfl rfl ?_
  refine a_gV rfl lX12_202 mo_X12_readAtom (h_readAtom_1 hw hbt hT hd h hB) rfl rfl rfl ⟨12, _, rfl, rfl, rfl⟩ rfl (fun v' h' hv => ?_)
  obtain ⟨rfl, J1, p1, rfl, hz1, hf1⟩ := hv
  rcases hr : (atomR T e 5) b o with ⟨z, b1, o1⟩
  rw [seqP_of hr]
  rw [hr] at hz1 hf1 g0
  cases z with
  | false =>
    refine a_if_ne rfl (fun z => absurd rfl z) (fun _ => ?_)
    refine a_s rfl rfl ?_
    rw [if_neg (by decide)]
    exact a_zret rfl rfl rfl (QF.no (hf1 rfl).1 (hf1 rfl).2)
  | true =>
  refine a_if_ne rfl (fun _ => ?_) (fun z => absurd (show (1 : Int32) = 0 from z) (by decide))
  rw [if_pos rfl]
  obtain ⟨-, -, g3⟩ := g0
  have g3 : b < b1 ∧ o1.length + b ≤ o.length + b1 := g3 rfl
  generalize hR : loopP T e (atomR T e 5) 20 2004 b1 o1 = R
  refine a_inv (n := e - b1) (fun m ls h => ls = [some (.ref 420)] ∧ ∃ J p' b' o', h = hp J L w1 w2 t ∧ Cf T e n0 b' o' I J p' ∧ o'.length < b' ∧ loopP T e (atomR T e 5) 20 2004 b' o' = R ∧ m = e - b') ⟨rfl, J1, p1, _, _, rfl, hz1 rfl, by show o1.length < b1; omega, hR, rfl⟩ ?_
  rintro m _ _ ⟨rfl, J, p', b', o', rfl, C, hB', es, hm⟩ ih
  have eT := Cf.tt C hT
  refine a_l0 rfl rfl rfl ?_
  refine a_ldcs (q := 130 + 20) rfl (hw.ld (i := 20) (by decide)) ?_
  refine a_gV rfl lX12_128 mo_X12_passes (h_passes (b := b') (k := 20) hw (by decide) (Cf.pp C) (by rw [eT]; exact Cf.nb C)) rfl rfl rfl ⟨12, _, rfl, rfl, rfl⟩ rfl (fun v' h' hv => ?_)
  obtain ⟨rfl, J2, rfl, h2⟩ := hv
  rw [eT] at h2 ⊢
  cases cw : isWd T e b' 20 with
  | false =>
    refine a_if_eq rfl (fun _ => ?_) (fun z => absurd rfl z)
    rw [if_neg (by rw [cw]; decide)] at h2
    refine a_s rfl rfl ?_
    rw [← es, loopP_f cw]
    exact a_zret rfl rfl rfl (QF.yes (Cf.rd C h2 (Cf.sk C)))
  | true =>
    refine a_if_eq rfl (fun z => absurd z (by decide)) (fun _ => ?_)
    rw [if_pos cw] at h2
    have n2 := nx_lt (T := T) (isWd_lt cw)
    have C2 : Cf T e n0 (nx T e b') o' I J2 (en T e b') := Cf.rd C h2 rfl
    have n2e := Cf.le C2
    have g4 := atomR_gdo (T := T) (D := 5) (o := o') n2e
    refine a_l0 rfl rfl rfl ?_
    refine a_gV rfl lX12_202 mo_X12_readAtom (h_readAtom_1 hw hbt (Cf.tt C2 hT) (Cf.d C2 hd) (Cf.rf C2) (by omega)) rfl rfl rfl ⟨12, _, rfl, rfl, rfl⟩ rfl (fun v' h' hv => ?_)
    obtain ⟨rfl, J3, p3, rfl, hz3, hf3⟩ := hv
    have el := fun g => loopP_t (op := 2004) (o := o') (item := atomR T e 5) cw g
    have en' := loopP_n (op := 2004) (o := o') (item := atomR T e 5) cw
    rcases hr2 : (atomR T e 5) (nx T e b') o' with ⟨z2, b2, o2⟩
    rw [hr2] at hz3 hf3 g4 el en'
    cases z2 with
    | false =>
      refine a_if_ne rfl (fun z => absurd rfl z) (fun _ => ?_)
      refine a_s rfl rfl ?_
      rw [← es, en' Bool.false_ne_true]
      exact a_zret rfl rfl rfl (Cf.no C2 (hf3 rfl).1 (hf3 rfl).2)
    | true =>
      refine a_if_ne rfl (fun _ => ?_) (fun z => absurd (show (1 : Int32) = 0 from z) (by decide))
      have C3 : Cf T e n0 b2 o2 I J3 p3 := Cf.cc C2 (hz3 rfl)
      have c3e := Cf.le C3
      obtain ⟨-, -, g5⟩ := g4
      have g5 : nx T e b' < b2 ∧ o2.length + nx T e b' ≤ o'.length + b2 := g5 rfl
      have es2 : loopP T e (atomR T e 5) 20 2004 b2 (2004 :: o2) = R := (el (by show b' < b2; omega) rfl).symm.trans es
      refine a_l0 rfl rfl rfl ?_
      refine a_s rfl rfl ?_
      refine a_s rfl rfl ?_
      refine a_eV0 rfl lX12_180 mo_X12_emits (r_X12_emits (Cf.st C3) (by omega)) rfl rfl rfl ⟨12, _, rfl, rfl, rfl⟩ rfl ?_
      refine a_goto rfl ?_
      exact ih (e - b2) _ _ (by omega) ⟨rfl, _, p3, b2, _, rfl, Cf.em (z := 2004) C3 (by decide) (by decide), by show o2.length + 1 < b2; omega, es2, rfl⟩
theorem h_readCond_1 (hw : WdS S) (hbt : BtT T) (hT : I 426 = T) (hd : I 420 13 = nI 1) (h : Cf T e n0 b o I I p) (hB : o.length < b) : Sp S m_X12_readCond 37 0 0 [.ref 420] (hp I L w1 w2 t) (QF T e n0 (seqP T e (seqP T e (atomR T e 5) 20 2004) 19 2005 b o) I L w1 w2 t) nX := by
  have he4 := Cf.e4 h
  have g0 := seqA_gd (T := T) (D := 5) (o := o) (Cf.le h)
  refine Sp_of ok_X12_readCond rfl rfl ?_
  show AW S m_X12_readCond 37 _ _ 0 0 0 [some (.ref 420)] [] (hp I L w1 w2 t)
  refine a_l0 rfl rfl rfl ?_
  refine a_gV rfl lX12_213 mo_X12_readAllOf (h_readAllOf_1 hw hbt hT hd h hB) rfl rfl rfl ⟨12, _, rfl, rfl, rfl⟩ rfl (fun v' h' hv => ?_)
  obtain ⟨rfl, J1, p1, rfl, hz1, hf1⟩ := hv
  rcases hr : (seqP T e (atomR T e 5) 20 2004) b o with ⟨z, b1, o1⟩
  rw [seqP_of hr]
  rw [hr] at hz1 hf1 g0
  cases z with
  | false =>
    refine a_if_ne rfl (fun z => absurd rfl z) (fun _ => ?_)
    refine a_s rfl rfl ?_
    rw [if_neg (by decide)]
    exact a_zret rfl rfl rfl (QF.no (hf1 rfl).1 (hf1 rfl).2)
  | true =>
  refine a_if_ne rfl (fun _ => ?_) (fun z => absurd (show (1 : Int32) = 0 from z) (by decide))
  rw [if_pos rfl]
  obtain ⟨-, -, g3⟩ := g0
  have g3 : b < b1 ∧ o1.length + b ≤ o.length + b1 := g3 rfl
  generalize hR : loopP T e (seqP T e (atomR T e 5) 20 2004) 19 2005 b1 o1 = R
  refine a_inv (n := e - b1) (fun m ls h => ls = [some (.ref 420)] ∧ ∃ J p' b' o', h = hp J L w1 w2 t ∧ Cf T e n0 b' o' I J p' ∧ o'.length < b' ∧ loopP T e (seqP T e (atomR T e 5) 20 2004) 19 2005 b' o' = R ∧ m = e - b') ⟨rfl, J1, p1, _, _, rfl, hz1 rfl, by show o1.length < b1; omega, hR, rfl⟩ ?_
  rintro m _ _ ⟨rfl, J, p', b', o', rfl, C, hB', es, hm⟩ ih
  have eT := Cf.tt C hT
  refine a_l0 rfl rfl rfl ?_
  refine a_ldcs (q := 130 + 19) rfl (hw.ld (i := 19) (by decide)) ?_
  refine a_gV rfl lX12_128 mo_X12_passes (h_passes (b := b') (k := 19) hw (by decide) (Cf.pp C) (by rw [eT]; exact Cf.nb C)) rfl rfl rfl ⟨12, _, rfl, rfl, rfl⟩ rfl (fun v' h' hv => ?_)
  obtain ⟨rfl, J2, rfl, h2⟩ := hv
  rw [eT] at h2 ⊢
  cases cw : isWd T e b' 19 with
  | false =>
    refine a_if_eq rfl (fun _ => ?_) (fun z => absurd rfl z)
    rw [if_neg (by rw [cw]; decide)] at h2
    refine a_s rfl rfl ?_
    rw [← es, loopP_f cw]
    exact a_zret rfl rfl rfl (QF.yes (Cf.rd C h2 (Cf.sk C)))
  | true =>
    refine a_if_eq rfl (fun z => absurd z (by decide)) (fun _ => ?_)
    rw [if_pos cw] at h2
    have n2 := nx_lt (T := T) (isWd_lt cw)
    have C2 : Cf T e n0 (nx T e b') o' I J2 (en T e b') := Cf.rd C h2 rfl
    have n2e := Cf.le C2
    have g4 := seqA_gd (T := T) (D := 5) (o := o') n2e
    refine a_l0 rfl rfl rfl ?_
    refine a_gV rfl lX12_213 mo_X12_readAllOf (h_readAllOf_1 hw hbt (Cf.tt C2 hT) (Cf.d C2 hd) (Cf.rf C2) (by omega)) rfl rfl rfl ⟨12, _, rfl, rfl, rfl⟩ rfl (fun v' h' hv => ?_)
    obtain ⟨rfl, J3, p3, rfl, hz3, hf3⟩ := hv
    have el := fun g => loopP_t (op := 2005) (o := o') (item := seqP T e (atomR T e 5) 20 2004) cw g
    have en' := loopP_n (op := 2005) (o := o') (item := seqP T e (atomR T e 5) 20 2004) cw
    rcases hr2 : (seqP T e (atomR T e 5) 20 2004) (nx T e b') o' with ⟨z2, b2, o2⟩
    rw [hr2] at hz3 hf3 g4 el en'
    cases z2 with
    | false =>
      refine a_if_ne rfl (fun z => absurd rfl z) (fun _ => ?_)
      refine a_s rfl rfl ?_
      rw [← es, en' Bool.false_ne_true]
      exact a_zret rfl rfl rfl (Cf.no C2 (hf3 rfl).1 (hf3 rfl).2)
    | true =>
      refine a_if_ne rfl (fun _ => ?_) (fun z => absurd (show (1 : Int32) = 0 from z) (by decide))
      have C3 : Cf T e n0 b2 o2 I J3 p3 := Cf.cc C2 (hz3 rfl)
      have c3e := Cf.le C3
      obtain ⟨-, -, g5⟩ := g4
      have g5 : nx T e b' < b2 ∧ o2.length + nx T e b' ≤ o'.length + b2 := g5 rfl
      have es2 : loopP T e (seqP T e (atomR T e 5) 20 2004) 19 2005 b2 (2005 :: o2) = R := (el (by show b' < b2; omega) rfl).symm.trans es
      refine a_l0 rfl rfl rfl ?_
      refine a_s rfl rfl ?_
      refine a_s rfl rfl ?_
      refine a_eV0 rfl lX12_180 mo_X12_emits (r_X12_emits (Cf.st C3) (by omega)) rfl rfl rfl ⟨12, _, rfl, rfl, rfl⟩ rfl ?_
      refine a_goto rfl ?_
      exact ih (e - b2) _ _ (by omega) ⟨rfl, _, p3, b2, _, rfl, Cf.em (z := 2005) C3 (by decide) (by decide), by show o2.length + 1 < b2; omega, es2, rfl⟩
theorem h_readAtom_0 (hw : WdS S) (hbt : BtT T) (hT : I 426 = T) (hd : I 420 13 = nI 0) (h : Cf T e n0 b o I I p) (hB : o.length < b) : Sp S m_X12_readAtom 38 0 0 [.ref 420] (hp I L w1 w2 t) (QF T e n0 (atomR T e 6 b o) I L w1 w2 t) nX := by
  have he4 := Cf.e4 h
  have hbe := Cf.le h
  refine Sp_of ok_X12_readAtom rfl rfl ?_
  show AW S m_X12_readAtom 38 _ _ 0 0 0 [some (.ref 420), none] [] (hp I L w1 w2 t)
  refine a_l0 rfl rfl rfl ?_
  refine a_s rfl rfl ?_
  refine a_gV rfl lX12_187 mo_X12_sign (h_sign (b := b) (c := 40) (by rw [hT]; exact hbt) (by decide) (Cf.pp h) (by rw [hT]; exact Cf.nb h)) rfl rfl rfl ⟨12, _, rfl, rfl, rfl⟩ rfl (fun v' h' hv => ?_)
  obtain ⟨rfl, J1, rfl, h1⟩ := hv
  rw [hT] at h1 ⊢
  cases c40 : sg T e b (nI 40) with
  | true =>
    have c40 : sg T e b 40 = true := c40
    refine a_if_eq rfl (fun z => absurd z (by decide)) (fun _ => ?_)
    rw [if_pos (show sg T e b (nI 40) = true from c40)] at h1
    have n1 := nx_lt (T := T) (sg_lt c40)
    have C1 : Cf T e n0 (nx T e b) o I J1 (en T e b) := Cf.rd h h1 rfl
    refine a_l0 rfl rfl rfl ?_
    refine a_geti rfl gfX12_194_12 rfl ?_
    refine a_top (y := nI 0) (Cf.d C1 hd) ?_
    refine a_s rfl rfl ?_
    refine a_ic_ne rfl (fun _ => ?_) (fun c => absurd c (by decide))
    refine a_l0 rfl rfl rfl ?_
    refine a_s rfl rfl ?_
    refine a_geti rfl gfX12_194_12 rfl ?_
    refine a_top (y := nI 0) (Cf.d C1 hd) ?_
    refine a_s rfl rfl ?_
    refine a_s rfl rfl ?_
    refine a_top (y := nI 1) (rfl) ?_
    refine a_puti rfl pfX12_194_12 rfl ?_
    refine a_l0 rfl rfl rfl ?_
    have g4 := cndP_gd (T := T) (fun b o h => atomR_gd (T := T) 5 b o h) (o := o) (Cf.le C1)
    refine a_gV rfl lX12_197 mo_X12_readCond (h_readCond_1 hw hbt ((up2_row (by decide)).trans (Cf.tt C1 hT)) up2_at (Cf.up13 C1) (by omega)) rfl rfl rfl ⟨12, _, rfl, rfl, rfl⟩ rfl (fun v' h' hv => ?_)
    obtain ⟨rfl, J9, p9, rfl, hz9, hf9⟩ := hv
    rw [show seqP T e (seqP T e (atomR T e 5) 20 2004) 19 2005 = cndP T e (atomR T e 5) from rfl] at hz9 hf9 ⊢
    rcases hr9 : cndP T e (atomR T e 5) (nx T e b) o with ⟨z9, b9, o9⟩
    rw [hr9] at hz9 hf9 g4
    rw [atomR_p c40 hr9]
    cases z9 with
    | false =>
      refine a_if_ne rfl (fun z => absurd rfl z) (fun _ => ?_)
      refine a_s rfl rfl ?_
      rw [if_neg (by decide)]
      exact a_zret rfl rfl rfl (QF.no (Fm.tr C1.1 (Fm.tr (Fm.up Fm.rf rfl) (hf9 rfl).1)) (hf9 rfl).2)
    | true =>
      refine a_if_ne rfl (fun _ => ?_) (fun z => absurd (show (1 : Int32) = 0 from z) (by decide))
      rw [if_pos rfl]
      have D9 : Cf T e n0 b9 o9 (up2 J1 420 13 (nI 1)) J9 p9 := hz9 rfl
      refine a_l0 rfl rfl rfl ?_
      refine a_s rfl rfl ?_
      refine a_geti rfl gfX12_194_12 rfl ?_
      refine a_top (y := nI 1) (D9.2.1.trans up2_at) ?_
      refine a_s rfl rfl ?_
      refine a_s rfl rfl ?_
      refine a_top (y := nI 0) (rfl) ?_
      refine a_puti rfl pfX12_194_12 rfl ?_
      have C9 := Cf.deep C1 hd D9
      have eT9 := Cf.tt C9 hT
      refine a_l0 rfl rfl rfl ?_
      refine a_s rfl rfl ?_
      refine a_gV rfl lX12_187 mo_X12_sign (h_sign (b := b9) (c := 41) (by rw [eT9]; exact hbt) (by decide) (Cf.pp C9) (by rw [eT9]; exact Cf.nb C9)) rfl rfl rfl ⟨12, _, rfl, rfl, rfl⟩ rfl (fun v' h' hv => ?_)
      obtain ⟨rfl, J3, rfl, h3⟩ := hv
      rw [eT9] at h3 ⊢
      cases c41 : sg T e b9 (nI 41) with
      | false =>
        have c41 : sg T e b9 41 = false := c41
        rw [if_neg (by rw [show sg T e b9 (nI 41) = false from c41]; decide)] at h3
        rw [if_neg (by rw [c41]; decide)]
        exact a_zret rfl rfl rfl (QF.no (Fm.tr C9.1 (Fm.mo (Rd.fm h3) sR_sY)) (Rd.be h3))
      | true =>
        have c41 : sg T e b9 41 = true := c41
        rw [if_pos (show sg T e b9 (nI 41) = true from c41)] at h3
        rw [if_pos c41]
        exact a_zret rfl rfl rfl (QF.yes (Cf.rd C9 h3 rfl))
  | false =>
  have c40 : sg T e b 40 = false := c40
  refine a_if_eq rfl (fun _ => ?_) (fun z => absurd rfl z)
  rw [if_neg (by rw [show sg T e b (nI 40) = false from c40]; decide)] at h1
  have C0 : Cf T e n0 b o I J1 b := Cf.rd h h1 (Cf.sk h)
  have eT0 := Cf.tt C0 hT
  refine a_l0 rfl rfl rfl ?_
  refine a_ldcs (q := 130 + 21) rfl (hw.ld (i := 21) (by decide)) ?_
  refine a_gV rfl lX12_128 mo_X12_passes (h_passes (b := b) (k := 21) hw (by decide) (Cf.pp C0) (by rw [eT0]; exact Cf.nb C0)) rfl rfl rfl ⟨12, _, rfl, rfl, rfl⟩ rfl (fun v' h' hv => ?_)
  obtain ⟨rfl, J2, rfl, h2⟩ := hv
  rw [eT0] at h2 ⊢
  cases c21 : isWd T e b 21 with
  | true =>
    refine a_if_eq rfl (fun z => absurd z (by decide)) (fun _ => ?_)
    rw [if_pos c21] at h2
    have n1 := nx_lt (T := T) (isWd_lt c21)
    have C2 : Cf T e n0 (nx T e b) o I J2 (en T e b) := Cf.rd C0 h2 rfl
    refine a_l0 rfl rfl rfl ?_
    refine a_geti rfl gfX12_194_12 rfl ?_
    refine a_top (y := nI 0) (Cf.d C2 hd) ?_
    refine a_s rfl rfl ?_
    refine a_ic_ne rfl (fun _ => ?_) (fun c => absurd c (by decide))
    refine a_l0 rfl rfl rfl ?_
    refine a_s rfl rfl ?_
    refine a_geti rfl gfX12_194_12 rfl ?_
    refine a_top (y := nI 0) (Cf.d C2 hd) ?_
    refine a_s rfl rfl ?_
    refine a_s rfl rfl ?_
    refine a_top (y := nI 1) (rfl) ?_
    refine a_puti rfl pfX12_194_12 rfl ?_
    refine a_l0 rfl rfl rfl ?_
    have g4 := atomR_gdo (T := T) (D := 5) (o := o) (Cf.le C2)
    refine a_gV rfl lX12_202 mo_X12_readAtom (h_readAtom_1 hw hbt ((up2_row (by decide)).trans (Cf.tt C2 hT)) up2_at (Cf.up13 C2) (by omega)) rfl rfl rfl ⟨12, _, rfl, rfl, rfl⟩ rfl (fun v' h' hv => ?_)
    obtain ⟨rfl, J9, p9, rfl, hz9, hf9⟩ := hv
    rcases hr9 : atomR T e 5 (nx T e b) o with ⟨z9, b9, o9⟩
    rw [hr9] at hz9 hf9 g4
    rw [atomR_n c40 c21 hr9]
    cases z9 with
    | false =>
      refine a_if_ne rfl (fun z => absurd rfl z) (fun _ => ?_)
      refine a_s rfl rfl ?_
      rw [if_neg (by decide)]
      exact a_zret rfl rfl rfl (QF.no (Fm.tr C2.1 (Fm.tr (Fm.up Fm.rf rfl) (hf9 rfl).1)) (hf9 rfl).2)
    | true =>
      refine a_if_ne rfl (fun _ => ?_) (fun z => absurd (show (1 : Int32) = 0 from z) (by decide))
      rw [if_pos rfl]
      have D9 : Cf T e n0 b9 o9 (up2 J2 420 13 (nI 1)) J9 p9 := hz9 rfl
      obtain ⟨-, -, g5⟩ := g4
      have g5 : nx T e b < b9 ∧ o9.length + nx T e b ≤ o.length + b9 := g5 rfl
      have c9e := Cf.le D9
      refine a_l0 rfl rfl rfl ?_
      refine a_s rfl rfl ?_
      refine a_geti rfl gfX12_194_12 rfl ?_
      refine a_top (y := nI 1) (D9.2.1.trans up2_at) ?_
      refine a_s rfl rfl ?_
      refine a_s rfl rfl ?_
      refine a_top (y := nI 0) (rfl) ?_
      refine a_puti rfl pfX12_194_12 rfl ?_
      have C9 := Cf.deep C2 hd D9
      refine a_l0 rfl rfl rfl ?_
      refine a_s rfl rfl ?_
      refine a_s rfl rfl ?_
      refine a_eV0 rfl lX12_180 mo_X12_emits (r_X12_emits (Cf.st C9) (by omega)) rfl rfl rfl ⟨12, _, rfl, rfl, rfl⟩ rfl ?_
      refine a_s rfl rfl ?_
      exact a_zret rfl rfl rfl (QF.yes (Cf.em (z := 2003) C9 (by decide) (by decide)))
  | false =>
  refine a_if_eq rfl (fun _ => ?_) (fun z => absurd rfl z)
  rw [if_neg (by rw [c21]; decide)] at h2
  have C2 : Cf T e n0 b o I J2 b := Cf.rd C0 h2 (Cf.sk C0)
  rw [atomR_b c40 c21]
  refine a_l0 rfl rfl rfl ?_
  refine a_gV rfl lX12_205 mo_X12_readTag (h_readTag hw (Cf.tt C2 hT) (Cf.rf C2) hB) rfl rfl rfl ⟨12, _, rfl, rfl, rfl⟩ rfl (fun v' h' hv => ?_)
  obtain ⟨z3, x3, J3, p3, rfl, rfl, ht3, hf3⟩ := hv
  cases z3 with
  | true =>
    refine a_if_eq rfl (fun z => absurd z (by decide)) (fun _ => ?_)
    refine a_s rfl rfl ?_
    obtain ⟨hx, D3⟩ := ht3 rfl
    rcases hx with ⟨c22, rfl⟩ | ⟨c22, c23, rfl⟩
    · rw [show baseP T e b o = (true, nx T e b, 1007 :: o) from if_pos c22]
      exact a_zret rfl rfl rfl (QF.yes (Cf.cc C2 D3))
    · rw [show baseP T e b o = (true, nx T e b, 1008 :: o) from (if_neg (by rw [c22]; decide)).trans (if_pos c23)]
      exact a_zret rfl rfl rfl (QF.yes (Cf.cc C2 D3))
  | false =>
  refine a_if_eq rfl (fun _ => ?_) (fun z => absurd rfl z)
  obtain ⟨⟨c22, c23⟩, D3⟩ := hf3 rfl
  have C3 := Cf.cc C2 D3
  have g4 := sumP_gd (T := T) (o := o) hbe
  refine a_l0 rfl rfl rfl ?_
  refine a_gV rfl lX12_208 mo_X12_readSum (h_readSum hw hbt (Cf.tt C3 hT) (Cf.rf C3) hB) rfl rfl rfl ⟨12, _, rfl, rfl, rfl⟩ rfl (fun v' h' hv => ?_)
  obtain ⟨rfl, J4, p4, rfl, hz4, hf4⟩ := hv
  rcases hr4 : sumP T e b o with ⟨z4, b4, o4⟩
  rw [baseP_s c22 c23 hr4]
  rw [hr4] at hz4 hf4 g4
  cases z4 with
  | false =>
    refine a_if_ne rfl (fun z => absurd rfl z) (fun _ => ?_)
    refine a_s rfl rfl ?_
    rw [if_neg (by decide)]
    exact a_zret rfl rfl rfl (Cf.no C3 (hf4 rfl).1 (hf4 rfl).2)
  | true =>
  refine a_if_ne rfl (fun _ => ?_) (fun z => absurd (show (1 : Int32) = 0 from z) (by decide))
  rw [if_pos rfl]
  have C4 : Cf T e n0 b4 o4 I J4 p4 := Cf.cc C3 (hz4 rfl)
  obtain ⟨-, -, g4⟩ := g4
  have g4 : b < b4 ∧ o4.length + b ≤ o.length + b4 := g4 rfl
  have key : ∀ {z5 : Bool} {x : Int32} {p' : Nat} {J : Nat → Nat → Int32}, b4 < nx T e b4 → x = (if z5 = true then 2001 else 2002) → Cf T e n0 (nx T e b4) o4 I J p' → AW S m_X12_readAtom 38 (QF T e n0 (cmpP T e x (nx T e b4) o4) I L w1 w2 t) nX 0 0 152 [some (.ref 420), some (.int (bI z5))] [] (hp J L w1 w2 t) := by
    intro z5 x p' J n4 hx C
    have g6 := sumP_gd (T := T) (o := o4) (Cf.le C)
    refine a_l0 rfl rfl rfl ?_
    refine a_gV rfl lX12_208 mo_X12_readSum (h_readSum hw hbt (Cf.tt C hT) (Cf.rf C) (by omega)) rfl rfl rfl ⟨12, _, rfl, rfl, rfl⟩ rfl (fun v' h' hv => ?_)
    obtain ⟨rfl, J6, p6, rfl, hz6, hf6⟩ := hv
    rcases hr6 : sumP T e (nx T e b4) o4 with ⟨z6, b6, o6⟩
    rw [hr6] at hz6 hf6 g6
    cases z6 with
    | false =>
      refine a_if_ne rfl (fun z => absurd rfl z) (fun _ => ?_)
      refine a_s rfl rfl ?_
      rw [cmpP_f hr6]
      exact a_zret rfl rfl rfl (Cf.no C (hf6 rfl).1 (hf6 rfl).2)
    | true =>
      refine a_if_ne rfl (fun _ => ?_) (fun z => absurd (show (1 : Int32) = 0 from z) (by decide))
      rw [cmpP_t hr6]
      have C6 : Cf T e n0 b6 o6 I J6 p6 := Cf.cc C (hz6 rfl)
      have c6e := Cf.le C6
      obtain ⟨-, -, g6⟩ := g6
      have g6 : nx T e b4 < b6 ∧ o6.length + nx T e b4 ≤ o4.length + b6 := g6 rfl
      refine a_l0 rfl rfl rfl ?_
      refine a_l1 rfl rfl rfl ?_
      cases z5 with
      | false =>
        rw [if_neg (by decide)] at hx
        subst hx
        refine a_if_eq rfl (fun _ => ?_) (fun c => absurd rfl c)
        refine a_s rfl rfl ?_
        refine a_s rfl rfl ?_
        refine a_eV0 rfl lX12_180 mo_X12_emits (r_X12_emits (Cf.st C6) (by omega)) rfl rfl rfl ⟨12, _, rfl, rfl, rfl⟩ rfl ?_
        refine a_s rfl rfl ?_
        exact a_zret rfl rfl rfl (QF.yes (Cf.em (z := 2002) C6 (by decide) (by decide)))
      | true =>
        rw [if_pos rfl] at hx
        subst hx
        refine a_if_eq rfl (fun c => absurd c (by decide)) (fun _ => ?_)
        refine a_s rfl rfl ?_
        refine a_goto rfl ?_
        refine a_s rfl rfl ?_
        refine a_eV0 rfl lX12_180 mo_X12_emits (r_X12_emits (Cf.st C6) (by omega)) rfl rfl rfl ⟨12, _, rfl, rfl, rfl⟩ rfl ?_
        refine a_s rfl rfl ?_
        exact a_zret rfl rfl rfl (QF.yes (Cf.em (z := 2001) C6 (by decide) (by decide)))
  have eT4 := Cf.tt C4 hT
  refine a_l0 rfl rfl rfl ?_
  refine a_s rfl rfl ?_
  refine a_gV rfl lX12_187 mo_X12_sign (h_sign (b := b4) (c := 60) (by rw [eT4]; exact hbt) (by decide) (Cf.pp C4) (by rw [eT4]; exact Cf.nb C4)) rfl rfl rfl ⟨12, _, rfl, rfl, rfl⟩ rfl (fun v' h' hv => ?_)
  obtain ⟨rfl, J5, rfl, h5⟩ := hv
  rw [eT4] at h5 ⊢
  refine a_s1 rfl rfl rfl rfl rfl rfl ?_
  refine a_l1 rfl rfl rfl ?_
  cases c60 : sg T e b4 (nI 60) with
  | true =>
    have c60 : sg T e b4 60 = true := c60
    refine a_if_ne rfl (fun _ => ?_) (fun z => absurd (show (1 : Int32) = 0 from z) (by decide))
    rw [if_pos (show sg T e b4 (nI 60) = true from c60)] at h5
    rw [if_pos c60]
    exact key (z5 := true) (nx_lt (sg_lt c60)) rfl (Cf.rd C4 h5 rfl)
  | false =>
  have c60 : sg T e b4 60 = false := c60
  refine a_if_ne rfl (fun z => absurd rfl z) (fun _ => ?_)
  rw [if_neg (by rw [show sg T e b4 (nI 60) = false from c60]; decide)] at h5
  rw [if_neg (by rw [c60]; decide)]
  have C5 : Cf T e n0 b4 o4 I J5 b4 := Cf.rd C4 h5 (Cf.sk C4)
  have eT5 := Cf.tt C5 hT
  refine a_l0 rfl rfl rfl ?_
  refine a_s rfl rfl ?_
  refine a_gV rfl lX12_187 mo_X12_sign (h_sign (b := b4) (c := 62) (by rw [eT5]; exact hbt) (by decide) (Cf.pp C5) (by rw [eT5]; exact Cf.nb C5)) rfl rfl rfl ⟨12, _, rfl, rfl, rfl⟩ rfl (fun v' h' hv => ?_)
  obtain ⟨rfl, J7, rfl, h7⟩ := hv
  rw [eT5] at h7 ⊢
  cases c62 : sg T e b4 (nI 62) with
  | false =>
    have c62 : sg T e b4 62 = false := c62
    refine a_if_eq rfl (fun _ => ?_) (fun z => absurd rfl z)
    rw [if_neg (by rw [show sg T e b4 (nI 62) = false from c62]; decide)] at h7
    rw [if_neg (by rw [c62]; decide)]
    refine a_s rfl rfl ?_
    exact a_zret rfl rfl rfl (QF.no (Fm.tr C5.1 (Fm.mo (Rd.fm h7) sR_sY)) (Rd.be h7))
  | true =>
    have c62 : sg T e b4 62 = true := c62
    refine a_if_eq rfl (fun z => absurd z (by decide)) (fun _ => ?_)
    rw [if_pos (show sg T e b4 (nI 62) = true from c62)] at h7
    rw [if_pos c62]
    exact key (z5 := false) (nx_lt (sg_lt c62)) rfl (Cf.rd C5 h7 rfl)
theorem h_readAllOf_0 (hw : WdS S) (hbt : BtT T) (hT : I 426 = T) (hd : I 420 13 = nI 0) (h : Cf T e n0 b o I I p) (hB : o.length < b) : Sp S m_X12_readAllOf 39 0 0 [.ref 420] (hp I L w1 w2 t) (QF T e n0 (seqP T e (atomR T e 6) 20 2004 b o) I L w1 w2 t) nX := by
  have he4 := Cf.e4 h
  have g0 := atomR_gdo (T := T) (D := 6) (o := o) (Cf.le h)
  refine Sp_of ok_X12_readAllOf rfl rfl ?_
  show AW S m_X12_readAllOf 39 _ _ 0 0 0 [some (.ref 420)] [] (hp I L w1 w2 t)
  refine a_l0 rfl rfl rfl ?_
  refine a_gV rfl lX12_202 mo_X12_readAtom (h_readAtom_0 hw hbt hT hd h hB) rfl rfl rfl ⟨12, _, rfl, rfl, rfl⟩ rfl (fun v' h' hv => ?_)
  obtain ⟨rfl, J1, p1, rfl, hz1, hf1⟩ := hv
  rcases hr : (atomR T e 6) b o with ⟨z, b1, o1⟩
  rw [seqP_of hr]
  rw [hr] at hz1 hf1 g0
  cases z with
  | false =>
    refine a_if_ne rfl (fun z => absurd rfl z) (fun _ => ?_)
    refine a_s rfl rfl ?_
    rw [if_neg (by decide)]
    exact a_zret rfl rfl rfl (QF.no (hf1 rfl).1 (hf1 rfl).2)
  | true =>
  refine a_if_ne rfl (fun _ => ?_) (fun z => absurd (show (1 : Int32) = 0 from z) (by decide))
  rw [if_pos rfl]
  obtain ⟨-, -, g3⟩ := g0
  have g3 : b < b1 ∧ o1.length + b ≤ o.length + b1 := g3 rfl
  generalize hR : loopP T e (atomR T e 6) 20 2004 b1 o1 = R
  refine a_inv (n := e - b1) (fun m ls h => ls = [some (.ref 420)] ∧ ∃ J p' b' o', h = hp J L w1 w2 t ∧ Cf T e n0 b' o' I J p' ∧ o'.length < b' ∧ loopP T e (atomR T e 6) 20 2004 b' o' = R ∧ m = e - b') ⟨rfl, J1, p1, _, _, rfl, hz1 rfl, by show o1.length < b1; omega, hR, rfl⟩ ?_
  rintro m _ _ ⟨rfl, J, p', b', o', rfl, C, hB', es, hm⟩ ih
  have eT := Cf.tt C hT
  refine a_l0 rfl rfl rfl ?_
  refine a_ldcs (q := 130 + 20) rfl (hw.ld (i := 20) (by decide)) ?_
  refine a_gV rfl lX12_128 mo_X12_passes (h_passes (b := b') (k := 20) hw (by decide) (Cf.pp C) (by rw [eT]; exact Cf.nb C)) rfl rfl rfl ⟨12, _, rfl, rfl, rfl⟩ rfl (fun v' h' hv => ?_)
  obtain ⟨rfl, J2, rfl, h2⟩ := hv
  rw [eT] at h2 ⊢
  cases cw : isWd T e b' 20 with
  | false =>
    refine a_if_eq rfl (fun _ => ?_) (fun z => absurd rfl z)
    rw [if_neg (by rw [cw]; decide)] at h2
    refine a_s rfl rfl ?_
    rw [← es, loopP_f cw]
    exact a_zret rfl rfl rfl (QF.yes (Cf.rd C h2 (Cf.sk C)))
  | true =>
    refine a_if_eq rfl (fun z => absurd z (by decide)) (fun _ => ?_)
    rw [if_pos cw] at h2
    have n2 := nx_lt (T := T) (isWd_lt cw)
    have C2 : Cf T e n0 (nx T e b') o' I J2 (en T e b') := Cf.rd C h2 rfl
    have n2e := Cf.le C2
    have g4 := atomR_gdo (T := T) (D := 6) (o := o') n2e
    refine a_l0 rfl rfl rfl ?_
    refine a_gV rfl lX12_202 mo_X12_readAtom (h_readAtom_0 hw hbt (Cf.tt C2 hT) (Cf.d C2 hd) (Cf.rf C2) (by omega)) rfl rfl rfl ⟨12, _, rfl, rfl, rfl⟩ rfl (fun v' h' hv => ?_)
    obtain ⟨rfl, J3, p3, rfl, hz3, hf3⟩ := hv
    have el := fun g => loopP_t (op := 2004) (o := o') (item := atomR T e 6) cw g
    have en' := loopP_n (op := 2004) (o := o') (item := atomR T e 6) cw
    rcases hr2 : (atomR T e 6) (nx T e b') o' with ⟨z2, b2, o2⟩
    rw [hr2] at hz3 hf3 g4 el en'
    cases z2 with
    | false =>
      refine a_if_ne rfl (fun z => absurd rfl z) (fun _ => ?_)
      refine a_s rfl rfl ?_
      rw [← es, en' Bool.false_ne_true]
      exact a_zret rfl rfl rfl (Cf.no C2 (hf3 rfl).1 (hf3 rfl).2)
    | true =>
      refine a_if_ne rfl (fun _ => ?_) (fun z => absurd (show (1 : Int32) = 0 from z) (by decide))
      have C3 : Cf T e n0 b2 o2 I J3 p3 := Cf.cc C2 (hz3 rfl)
      have c3e := Cf.le C3
      obtain ⟨-, -, g5⟩ := g4
      have g5 : nx T e b' < b2 ∧ o2.length + nx T e b' ≤ o'.length + b2 := g5 rfl
      have es2 : loopP T e (atomR T e 6) 20 2004 b2 (2004 :: o2) = R := (el (by show b' < b2; omega) rfl).symm.trans es
      refine a_l0 rfl rfl rfl ?_
      refine a_s rfl rfl ?_
      refine a_s rfl rfl ?_
      refine a_eV0 rfl lX12_180 mo_X12_emits (r_X12_emits (Cf.st C3) (by omega)) rfl rfl rfl ⟨12, _, rfl, rfl, rfl⟩ rfl ?_
      refine a_goto rfl ?_
      exact ih (e - b2) _ _ (by omega) ⟨rfl, _, p3, b2, _, rfl, Cf.em (z := 2004) C3 (by decide) (by decide), by show o2.length + 1 < b2; omega, es2, rfl⟩
theorem h_readCond_0 (hw : WdS S) (hbt : BtT T) (hT : I 426 = T) (hd : I 420 13 = nI 0) (h : Cf T e n0 b o I I p) (hB : o.length < b) : Sp S m_X12_readCond 40 0 0 [.ref 420] (hp I L w1 w2 t) (QF T e n0 (seqP T e (seqP T e (atomR T e 6) 20 2004) 19 2005 b o) I L w1 w2 t) nX := by
  have he4 := Cf.e4 h
  have g0 := seqA_gd (T := T) (D := 6) (o := o) (Cf.le h)
  refine Sp_of ok_X12_readCond rfl rfl ?_
  show AW S m_X12_readCond 40 _ _ 0 0 0 [some (.ref 420)] [] (hp I L w1 w2 t)
  refine a_l0 rfl rfl rfl ?_
  refine a_gV rfl lX12_213 mo_X12_readAllOf (h_readAllOf_0 hw hbt hT hd h hB) rfl rfl rfl ⟨12, _, rfl, rfl, rfl⟩ rfl (fun v' h' hv => ?_)
  obtain ⟨rfl, J1, p1, rfl, hz1, hf1⟩ := hv
  rcases hr : (seqP T e (atomR T e 6) 20 2004) b o with ⟨z, b1, o1⟩
  rw [seqP_of hr]
  rw [hr] at hz1 hf1 g0
  cases z with
  | false =>
    refine a_if_ne rfl (fun z => absurd rfl z) (fun _ => ?_)
    refine a_s rfl rfl ?_
    rw [if_neg (by decide)]
    exact a_zret rfl rfl rfl (QF.no (hf1 rfl).1 (hf1 rfl).2)
  | true =>
  refine a_if_ne rfl (fun _ => ?_) (fun z => absurd (show (1 : Int32) = 0 from z) (by decide))
  rw [if_pos rfl]
  obtain ⟨-, -, g3⟩ := g0
  have g3 : b < b1 ∧ o1.length + b ≤ o.length + b1 := g3 rfl
  generalize hR : loopP T e (seqP T e (atomR T e 6) 20 2004) 19 2005 b1 o1 = R
  refine a_inv (n := e - b1) (fun m ls h => ls = [some (.ref 420)] ∧ ∃ J p' b' o', h = hp J L w1 w2 t ∧ Cf T e n0 b' o' I J p' ∧ o'.length < b' ∧ loopP T e (seqP T e (atomR T e 6) 20 2004) 19 2005 b' o' = R ∧ m = e - b') ⟨rfl, J1, p1, _, _, rfl, hz1 rfl, by show o1.length < b1; omega, hR, rfl⟩ ?_
  rintro m _ _ ⟨rfl, J, p', b', o', rfl, C, hB', es, hm⟩ ih
  have eT := Cf.tt C hT
  refine a_l0 rfl rfl rfl ?_
  refine a_ldcs (q := 130 + 19) rfl (hw.ld (i := 19) (by decide)) ?_
  refine a_gV rfl lX12_128 mo_X12_passes (h_passes (b := b') (k := 19) hw (by decide) (Cf.pp C) (by rw [eT]; exact Cf.nb C)) rfl rfl rfl ⟨12, _, rfl, rfl, rfl⟩ rfl (fun v' h' hv => ?_)
  obtain ⟨rfl, J2, rfl, h2⟩ := hv
  rw [eT] at h2 ⊢
  cases cw : isWd T e b' 19 with
  | false =>
    refine a_if_eq rfl (fun _ => ?_) (fun z => absurd rfl z)
    rw [if_neg (by rw [cw]; decide)] at h2
    refine a_s rfl rfl ?_
    rw [← es, loopP_f cw]
    exact a_zret rfl rfl rfl (QF.yes (Cf.rd C h2 (Cf.sk C)))
  | true =>
    refine a_if_eq rfl (fun z => absurd z (by decide)) (fun _ => ?_)
    rw [if_pos cw] at h2
    have n2 := nx_lt (T := T) (isWd_lt cw)
    have C2 : Cf T e n0 (nx T e b') o' I J2 (en T e b') := Cf.rd C h2 rfl
    have n2e := Cf.le C2
    have g4 := seqA_gd (T := T) (D := 6) (o := o') n2e
    refine a_l0 rfl rfl rfl ?_
    refine a_gV rfl lX12_213 mo_X12_readAllOf (h_readAllOf_0 hw hbt (Cf.tt C2 hT) (Cf.d C2 hd) (Cf.rf C2) (by omega)) rfl rfl rfl ⟨12, _, rfl, rfl, rfl⟩ rfl (fun v' h' hv => ?_)
    obtain ⟨rfl, J3, p3, rfl, hz3, hf3⟩ := hv
    have el := fun g => loopP_t (op := 2005) (o := o') (item := seqP T e (atomR T e 6) 20 2004) cw g
    have en' := loopP_n (op := 2005) (o := o') (item := seqP T e (atomR T e 6) 20 2004) cw
    rcases hr2 : (seqP T e (atomR T e 6) 20 2004) (nx T e b') o' with ⟨z2, b2, o2⟩
    rw [hr2] at hz3 hf3 g4 el en'
    cases z2 with
    | false =>
      refine a_if_ne rfl (fun z => absurd rfl z) (fun _ => ?_)
      refine a_s rfl rfl ?_
      rw [← es, en' Bool.false_ne_true]
      exact a_zret rfl rfl rfl (Cf.no C2 (hf3 rfl).1 (hf3 rfl).2)
    | true =>
      refine a_if_ne rfl (fun _ => ?_) (fun z => absurd (show (1 : Int32) = 0 from z) (by decide))
      have C3 : Cf T e n0 b2 o2 I J3 p3 := Cf.cc C2 (hz3 rfl)
      have c3e := Cf.le C3
      obtain ⟨-, -, g5⟩ := g4
      have g5 : nx T e b' < b2 ∧ o2.length + nx T e b' ≤ o'.length + b2 := g5 rfl
      have es2 : loopP T e (seqP T e (atomR T e 6) 20 2004) 19 2005 b2 (2005 :: o2) = R := (el (by show b' < b2; omega) rfl).symm.trans es
      refine a_l0 rfl rfl rfl ?_
      refine a_s rfl rfl ?_
      refine a_s rfl rfl ?_
      refine a_eV0 rfl lX12_180 mo_X12_emits (r_X12_emits (Cf.st C3) (by omega)) rfl rfl rfl ⟨12, _, rfl, rfl, rfl⟩ rfl ?_
      refine a_goto rfl ?_
      exact ih (e - b2) _ _ (by omega) ⟨rfl, _, p3, b2, _, rfl, Cf.em (z := 2005) C3 (by decide) (by decide), by show o2.length + 1 < b2; omega, es2, rfl⟩
end T79h
