/-! ===== the reference: a text of the street, as a function (printed by program) ===== -/
section T79o
variable {S : aS} {I : Nat → Nat → Int32} {L : Nat → Nat → Int64} {w1 w2 t : Nat} {e p b : Nat} {T W : Nat → Int32}
set_option maxRecDepth 100000
/-- from I to J: at p, what is next begins at b, the world is W -/
def Hf (T : Nat → Int32) (e b : Nat) (W : Nat → Int32) (I J : Nat → Nat → Int32) (p : Nat) : Prop := Fm sS I J ∧ Pp e p J ∧ rn T e 4 p = b ∧ J 421 = W
theorem Hf.pp {J : Nat → Nat → Int32} (h : Hf T e b W I J p) : Pp e p J := h.2.1
theorem Hf.nb {J : Nat → Nat → Int32} (h : Hf T e b W I J p) : rn T e 4 p = b := h.2.2.1
theorem Hf.wd {J : Nat → Nat → Int32} (h : Hf T e b W I J p) : J 421 = W := h.2.2.2
theorem Hf.tt {J : Nat → Nat → Int32} (h : Hf T e b W I J p) (hT : I 426 = T) : J 426 = T := (funext fun k => h.1 426 k rfl).trans hT
theorem Hf.sk {J : Nat → Nat → Int32} (h : Hf T e b W I J p) : rn T e 4 b = b := by
  rw [← Hf.nb h]
  exact rn_rn
theorem Hf.le {J : Nat → Nat → Int32} (h : Hf T e b W I J p) : b ≤ e := by
  rw [← Hf.nb h]
  exact rn_le (Pp.le (Hf.pp h))
theorem Hf.rd {J K : Nat → Nat → Int32} {b2 p' b' : Nat} (h : Hf T e b W I J p) (r : Rd e p b2 p' J K) (hb : rn T e 4 p' = b') : Hf T e b' W I K p' := ⟨Fm.tr h.1 (Fm.mo (Rd.fm r) sR_sS), Rd.pp r, hb, (Rd.w r).trans h.2.2.2⟩
theorem Hf.ot {J K : Nat → Nat → Int32} {p' b' : Nat} (h : Hf T e b W I J p) (f : Fm sR J K) (hq : Pp e p' K) (hb : rn T e 4 p' = b') : Hf T e b' W I K p' := ⟨Fm.tr h.1 (Fm.mo f sR_sS), hq, hb, (funext fun k => f 421 k rfl).trans h.2.2.2⟩
def QH (T : Nat → Int32) (e : Nat) (r : SR) (I : Nat → Nat → Int32) (L : Nat → Nat → Int64) (w1 w2 t : Nat) : Option Value → aH → Prop := fun v h' => v = some (.int (bI r.1)) ∧ ∃ J p, h' = hp J L w1 w2 t ∧ (r.1 = true → Hf T e r.2.1 r.2.2 I J p) ∧ (r.1 = false → Fm sS I J ∧ J 420 12 = nI r.2.1)
theorem QH.yes {J : Nat → Nat → Int32} (h : Hf T e b W I J p) : QH T e (true, b, W) I L w1 w2 t (some (.int 1)) (hp J L w1 w2 t) := ⟨rfl, J, p, rfl, fun _ => h, fun z => by cases z⟩
theorem QH.no {J : Nat → Nat → Int32} (f : Fm sS I J) (hb : J 420 12 = nI b) : QH T e (false, b, W) I L w1 w2 t (some (.int 0)) (hp J L w1 w2 t) := ⟨rfl, J, 0, rfl, fun z => (by cases z), fun _ => ⟨f, hb⟩⟩
theorem QH.be {J : Nat → Nat → Int32} {r : SR} {v : Option Value} {h' : aH} (f : Fm sS I J) (h : QH T e r J L w1 w2 t v h') : QH T e r I L w1 w2 t v h' := by
  obtain ⟨e1, K, p', e2, y, n⟩ := h
  exact ⟨e1, K, p', e2, fun z => ⟨Fm.tr f (y z).1, (y z).2⟩, fun z => ⟨Fm.tr f (n z).1, (n z).2⟩⟩
theorem nm_ge0 {lo hi : Int32} (h0 : 0 ≤ lo) : nm T e b lo hi = -1 ∨ 0 ≤ nm T e b lo hi := by
  by_cases c : nm T e b lo hi = -1
  · exact Or.inl c
  · exact Or.inr (Int32.le_trans h0 (nm_in c).1)
theorem nbP_ge0 {k : Nat} {lo hi : Int32} (h0 : 0 ≤ lo) : (nbP T e k lo hi b).1 = -1 ∨ 0 ≤ (nbP T e k lo hi b).1 := by
  unfold nbP
  by_cases c : isWd T e b k = true
  · rw [if_pos c]
    by_cases c2 : nm T e (nx T e b) lo hi = -1
    · rw [if_pos c2]
      exact Or.inl rfl
    · rw [if_neg c2]
      exact nm_ge0 h0
  · rw [if_neg c]
    exact Or.inl rfl
theorem h_numberBehind (hw : WdS S) (hT : I 426 = T) {k : Nat} (hk : k < 27) (hq : Pp e p I) (hb : rn T e 4 p = b) {lo hi : Int32} (h0 : 0 ≤ lo) : Sp S m_X12_numberBehind 18 0 0 [.ref 420, .ref (130 + k), .int lo, .int hi] (hp I L w1 w2 t) (fun v h' => v = some (.int (nbP T e k lo hi b).1) ∧ ∃ J p', h' = hp J L w1 w2 t ∧ Fm sR I J ∧ (¬ (nbP T e k lo hi b).1 = -1 → Pp e p' J ∧ rn T e 4 p' = (nbP T e k lo hi b).2) ∧ ((nbP T e k lo hi b).1 = -1 → J 420 12 = nI (nbP T e k lo hi b).2)) nX := by
  refine Sp_of ok_X12_numberBehind rfl rfl ?_
  show AW S m_X12_numberBehind 18 _ _ 0 0 0 [some (.ref 420), some (.ref (130 + k)), some (.int lo), some (.int hi)] [] (hp I L w1 w2 t)
  refine a_l0 rfl rfl rfl ?_
  refine a_gV rfl lX12_106 mo_X12_letters (h_letters hq) rfl rfl rfl ⟨12, _, rfl, rfl, rfl⟩ rfl (fun v' h' hv => ?_)
  obtain ⟨rfl, J1, rfl, h1⟩ := hv
  rw [hT, hb] at h1
  have eT1 : J1 426 = T := (Rd.T h1).trans hT
  refine a_l0 rfl rfl rfl ?_
  refine a_l1 rfl rfl rfl ?_
  refine a_eV1 rfl lX12_109 mo_X12_isWord (h_isWord (k := k) hw hk (Rd.be h1) (Rd.bp h1) (Rd.pp h1)) rfl rfl rfl ⟨12, _, rfl, rfl, rfl⟩ rfl ?_
  obtain ⟨z, cz⟩ : ∃ z, isWd T e b k = z := ⟨_, rfl⟩
  refine a_top (y := bI z) (by rw [eT1]; exact congrArg bI ((isW_wd hk).trans cz)) ?_
  cases z with
  | true =>
    refine a_if_eq rfl (fun z => absurd z (by decide)) (fun _ => ?_)
    have k1 := (of_decide_eq_true cz).1
    refine a_l0 rfl rfl rfl ?_
    refine a_l2 rfl rfl rfl ?_
    refine a_l3 rfl rfl rfl ?_
    refine a_gV rfl lX12_113 mo_X12_number (h_number (b := nx T e b) (x := lo) (y := hi) (Rd.pp h1) (by rw [eT1, ← en_1 k1]; rfl) h0) rfl rfl rfl ⟨12, _, rfl, rfl, rfl⟩ rfl (fun v' h' hv => ?_)
    obtain ⟨rfl, J2, rfl, h2⟩ := hv
    rw [eT1] at h2 ⊢
    refine a_goto rfl ?_
    rw [nbP_t cz]
    by_cases c2 : nm T e (nx T e b) lo hi = -1
    · rw [if_pos c2, c2]
      exact a_iret rfl rfl ⟨rfl, J2, 0, rfl, Fm.tr (Rd.fm h1) (Rd.fm h2), fun z => absurd rfl z, fun _ => Rd.be h2⟩
    · rw [if_neg c2]
      exact a_iret rfl rfl ⟨rfl, J2, _, rfl, Fm.tr (Rd.fm h1) (Rd.fm h2), fun _ => ⟨Rd.pp h2, by rw [← en_2 (nm_in c2).2.2.1]; rfl⟩, fun z => absurd z c2⟩
  | false =>
    refine a_if_eq rfl (fun _ => ?_) (fun z => absurd rfl z)
    refine a_s rfl rfl ?_
    rw [nbP_f cz]
    exact a_iret rfl rfl ⟨rfl, J1, 0, rfl, Rd.fm h1, fun z => absurd rfl z, fun _ => Rd.be h1⟩
theorem h_readNumber (hT : I 426 = T) (hq : Pp e p I) (hb : rn T e 4 p = b) (h421 : I 421 = W) {i : Nat} (h4 : 4 ≤ i) (h8 : i ≤ 8) {x y : Int32} (h0 : 0 ≤ x) : Sp S m_X12_readNumber 16 0 0 [.ref 420, .int (nI i), .int x, .int y] (hp I L w1 w2 t) (QH T e (setP T e b W i x y) I L w1 w2 t) nX := by
  refine Sp_of ok_X12_readNumber rfl rfl ?_
  show AW S m_X12_readNumber 16 _ _ 0 0 0 [some (.ref 420), some (.int (nI i)), some (.int x), some (.int y), none] [] (hp I L w1 w2 t)
  refine a_l0 rfl rfl rfl ?_
  refine a_l2 rfl rfl rfl ?_
  refine a_l3 rfl rfl rfl ?_
  refine a_gV rfl lX12_113 mo_X12_number (h_number (b := b) hq (by rw [hT]; exact hb) h0) rfl rfl rfl ⟨12, _, rfl, rfl, rfl⟩ rfl (fun v' h' hv => ?_)
  obtain ⟨rfl, J, rfl, h⟩ := hv
  rw [hT] at h ⊢
  refine a_s4 rfl rfl rfl rfl rfl rfl ?_
  refine a_l0 rfl rfl rfl ?_
  refine a_getq rfl gfX12_13_12 rfl (rfl) ?_
  refine a_l1 rfl rfl rfl ?_
  refine a_l4 rfl rfl rfl ?_
  have fs : ∀ v, Fm sS I (up2 J 421 i v) := fun v => Fm.up (Fm.mo (Rd.fm h) sR_sS) (sS_at (stC_of _ (by omega) (by omega) (by omega)))
  by_cases c : nm T e b x y = -1
  · rw [show setP T e b W i x y = (false, b, W) from if_pos c, c]
    refine a_if_ge rfl (fun z => absurd z (by decide)) (fun _ => ?_)
    refine a_l0 rfl rfl rfl ?_
    refine a_getq rfl gfX12_13_12 rfl (rfl) ?_
    refine a_l1 rfl rfl rfl ?_
    refine a_ialdv (v := J 421 i) rfl (n := 2033) rfl (inI_nI (by omega) (by omega)) (by rw [nI_clamp (by omega)]) ?_
    refine a_goto rfl ?_
    refine a_iastv (k := i) rfl (n := 2033) rfl (inI_nI (by omega) (by omega)) (nI_clamp (by omega)) ?_
    refine a_l4 rfl rfl rfl ?_
    refine a_if_lt rfl (fun _ => ?_) (fun z => absurd (by decide) z)
    refine a_s rfl rfl ?_
    exact a_zret rfl rfl rfl (QH.no (fs _) ((congrFun (up2_row (by decide)) 12).trans (Rd.be h)))
  · rw [show setP T e b W i x y = (true, nx T e b, ud W i (nm T e b x y)) from if_neg c]
    have g0 := Int32.le_trans h0 (nm_in c).1
    refine a_if_ge rfl (fun _ => ?_) (fun z => absurd g0 z)
    refine a_l4 rfl rfl rfl ?_
    refine a_iastv (k := i) rfl (n := 2033) rfl (inI_nI (by omega) (by omega)) (nI_clamp (by omega)) ?_
    refine a_l4 rfl rfl rfl ?_
    refine a_if_lt rfl (fun z => absurd z (Int32.not_lt.mpr g0)) (fun _ => ?_)
    refine a_s rfl rfl ?_
    refine a_goto rfl ?_
    refine a_zret rfl rfl rfl (QH.yes ⟨fs _, ?_, (by rw [← en_2 (nm_in c).2.2.1]; rfl : rn T e 4 (rn T e 2 b) = nx T e b), ?_⟩)
    · unfold Pp
      rw [up2_row (by decide)]
      exact Rd.pp h
    · rw [up2_ud, Rd.w h, h421]
theorem h_readForgotten (hT : I 426 = T) (hq : Pp e p I) (hb : rn T e 4 p = b) (h421 : I 421 = W) (hW : WOk W) : Sp S m_X12_readForgotten 16 0 0 [.ref 420] (hp I L w1 w2 t) (QH T e (forP T e b W) I L w1 w2 t) nX := by
  have h12 := hW.2.1
  refine Sp_of ok_X12_readForgotten rfl rfl ?_
  show AW S m_X12_readForgotten 16 _ _ 0 0 0 [some (.ref 420), none] [] (hp I L w1 w2 t)
  refine a_l0 rfl rfl rfl ?_
  refine a_s rfl rfl ?_
  refine a_l0 rfl rfl rfl ?_
  refine a_eV1 rfl lX12_74 mo_X12_duties sp_X12_duties rfl rfl rfl ⟨12, _, rfl, rfl, rfl⟩ rfl ?_
  refine a_s rfl rfl ?_
  refine a_s rfl rfl ?_
  refine a_top (y := W 1 - 1) (by rw [h421]) ?_
  refine a_gV rfl lX12_113 mo_X12_number (h_number (b := b) (x := 0) (y := W 1 - 1) hq (by rw [hT]; exact hb) (by decide)) rfl rfl rfl ⟨12, _, rfl, rfl, rfl⟩ rfl (fun v' h' hv => ?_)
  obtain ⟨rfl, J, rfl, h⟩ := hv
  rw [hT] at h ⊢
  have no : ∀ {v : Int32}, forP T e b W = (false, b, W) → AW S m_X12_readForgotten 16 (QH T e (forP T e b W) I L w1 w2 t) nX 0 0 24 [some (.ref 420), some (.int v)] [] (hp J L w1 w2 t) := by
    intro v ef
    rw [ef]
    refine a_s rfl rfl ?_
    exact a_zret rfl rfl rfl (QH.no (Fm.mo (Rd.fm h) sR_sS) (Rd.be h))
  refine a_s1 rfl rfl rfl rfl rfl rfl ?_
  refine a_l1 rfl rfl rfl ?_
  by_cases c : nm T e b 0 (W 1 - 1) = -1
  · refine a_if_lt rfl (fun _ => no (if_pos c)) (fun z => absurd (by rw [c]; decide) z)
  obtain ⟨j, hj, ej⟩ := nm_ix h12 (by rw [← hW.2.2.2]; exact c)
  rw [← hW.2.2.2] at ej
  refine a_if_lt rfl (fun z => absurd z (by rw [ej]; exact nI_pos (by omega))) (fun _ => ?_)
  rw [ej]
  refine a_l0 rfl rfl rfl ?_
  refine a_l1 rfl rfl rfl ?_
  refine a_eV1 rfl lX12_135 mo_X12_isWaiting (sp_X12_isWaiting (d := j) (by omega)) rfl rfl rfl ⟨12, _, rfl, rfl, rfl⟩ rfl ?_
  have e5 : vd (J 421) 5 j = W (23 + 6 * j + 5) := by rw [Rd.w h, h421]
  rw [e5]
  by_cases cw : W (23 + 6 * j + 5) = 0
  · rw [decide_eq_true cw]
    refine a_if_ne rfl (fun _ => ?_) (fun z => absurd z (by decide))
    rw [show forP T e b W = (true, nx T e b, ud W (23 + 6 * j + 5) 2) by unfold forP; rw [if_neg c, ej, nI_clamp (by omega), if_pos cw]]
    refine a_l0 rfl rfl rfl ?_
    refine a_getq rfl gfX12_13_12 rfl (rfl) ?_
    refine a_l1 rfl rfl rfl ?_
    refine a_s rfl rfl ?_
    refine a_eS1 rfl lX12_60 mo_X12_at (sp_X12_at (d := j) (k := 5)) rfl rfl rfl rfl ?_
    refine a_s rfl rfl ?_
    refine a_iastv (k := 23 + 6 * j + 5) rfl (n := 2033) rfl (inI_nI (by omega) (by omega)) (nI_clamp (by omega)) ?_
    refine a_s rfl rfl ?_
    refine a_zret rfl rfl rfl (QH.yes ⟨Fm.up (Fm.mo (Rd.fm h) sR_sS) (sS_at (stC_of _ (by omega) (by omega) (by omega))), ?_, (by rw [← en_2 (nm_in c).2.2.1]; rfl : rn T e 4 (rn T e 2 b) = nx T e b), ?_⟩)
    · unfold Pp
      rw [up2_row (by decide)]
      exact Rd.pp h
    · rw [up2_ud, Rd.w h, h421]
  · rw [decide_eq_false cw]
    refine a_if_ne rfl (fun z => absurd rfl z) (fun _ => no ?_)
    unfold forP
    rw [if_neg c, ej, nI_clamp (by omega), if_neg cw]
theorem h_readPerson (hw : WdS S) (hT : I 426 = T) (hq : Pp e p I) (hn : rn T e 4 p = nx T e b) (h12 : I 420 12 = nI b) (h421 : I 421 = W) (hW : WOk W) : Sp S m_X12_readPerson 20 0 0 [.ref 420] (hp I L w1 w2 t) (QH T e (perP T e b W) I L w1 w2 t) nX := by
  have hp6 := hW.1
  refine Sp_of ok_X12_readPerson rfl rfl ?_
  show AW S m_X12_readPerson 20 _ _ 0 0 0 [some (.ref 420), none, none, none] [] (hp I L w1 w2 t)
  refine a_l0 rfl rfl rfl ?_
  refine a_eV1 rfl lX12_66 mo_X12_people sp_X12_people rfl rfl rfl ⟨12, _, rfl, rfl, rfl⟩ rfl ?_
  refine a_top (y := nI (pn W)) (by rw [h421]; exact hW.2.2.1) ?_
  refine a_s1 rfl rfl rfl rfl rfl rfl ?_
  refine a_l1 rfl rfl rfl ?_
  refine a_s rfl rfl ?_
  refine a_ic_ne rfl (fun c => ?_) (fun c => ?_)
  rotate_left
  · rw [show perP T e b W = (false, b, W) from if_pos (hW.2.2.1.trans c)]
    refine a_s rfl rfl ?_
    exact a_zret rfl rfl rfl (QH.no Fm.rf h12)
  have n6 : ¬ pn W = 6 := fun z => c (congrArg nI z)
  rw [show perP T e b W = perB T e W (nbP T e 1 0 15 (nx T e b)) from if_neg fun z => c (hW.2.2.1.symm.trans z)]
  refine a_l0 rfl rfl rfl ?_
  refine a_ldcs (q := 130 + 1) rfl (hw.ld (i := 1) (by decide)) ?_
  refine a_s rfl rfl ?_
  refine a_s rfl rfl ?_
  refine a_gV rfl lX12_117 mo_X12_numberBehind (h_numberBehind (k := 1) (lo := 0) (hi := 15) hw hT (by decide) hq hn (by decide)) rfl rfl rfl ⟨12, _, rfl, rfl, rfl⟩ rfl (fun v' h' hv => ?_)
  obtain ⟨rfl, J1, p1, rfl, f1, g1, z1⟩ := hv
  have hx := nbP_ge0 (T := T) (e := e) (b := nx T e b) (k := 1) (lo := 0) (hi := 15) (by decide)
  generalize nbP T e 1 0 15 (nx T e b) = x at g1 z1 hx ⊢
  refine a_s2 rfl rfl rfl rfl rfl rfl ?_
  refine a_l2 rfl rfl rfl ?_
  refine a_if_ge rfl (fun c1 => ?_) (fun c1 => ?_)
  rotate_left
  · have e1 := hx.resolve_right c1
    rw [show perB T e W x = (false, x.2, W) from if_pos e1]
    refine a_s rfl rfl ?_
    refine a_goto rfl ?_
    refine a_s3 rfl rfl rfl rfl rfl rfl ?_
    refine a_l3 rfl rfl rfl ?_
    refine a_if_ge rfl (fun c => absurd c (by decide)) (fun _ => ?_)
    refine a_s rfl rfl ?_
    exact a_zret rfl rfl rfl (QH.no (Fm.mo f1 sR_sS) (z1 e1))
  have n1 : ¬ x.1 = -1 := fun z => by
    rw [z] at c1
    exact absurd c1 (by decide)
  obtain ⟨q1, b1⟩ := g1 n1
  rw [show perB T e W x = perC W x.1 (nbP T e 2 0 9 x.2) from if_neg n1]
  have eT1 : J1 426 = T := (funext fun k => f1 426 k rfl).trans hT
  refine a_l0 rfl rfl rfl ?_
  refine a_ldcs (q := 130 + 2) rfl (hw.ld (i := 2) (by decide)) ?_
  refine a_s rfl rfl ?_
  refine a_s rfl rfl ?_
  refine a_gV rfl lX12_117 mo_X12_numberBehind (h_numberBehind (k := 2) (lo := 0) (hi := 9) hw eT1 (by decide) q1 b1 (by decide)) rfl rfl rfl ⟨12, _, rfl, rfl, rfl⟩ rfl (fun v' h' hv => ?_)
  obtain ⟨rfl, J2, p2, rfl, f2, g2, z2⟩ := hv
  have hy := nbP_ge0 (T := T) (e := e) (b := x.2) (k := 2) (lo := 0) (hi := 9) (by decide)
  generalize nbP T e 2 0 9 x.2 = y at g2 z2 hy ⊢
  have f12 : Fm sS I J2 := Fm.mo (Fm.tr f1 f2) sR_sS
  refine a_s3 rfl rfl rfl rfl rfl rfl ?_
  refine a_l3 rfl rfl rfl ?_
  refine a_if_ge rfl (fun c2 => ?_) (fun c2 => ?_)
  rotate_left
  · have e2 := hy.resolve_right c2
    rw [show perC W x.1 y = (false, y.2, W) from if_pos e2]
    refine a_s rfl rfl ?_
    exact a_zret rfl rfl rfl (QH.no f12 (z2 e2))
  have n2 : ¬ y.1 = -1 := fun z => by
    rw [z] at c2
    exact absurd c2 (by decide)
  obtain ⟨q2, b2⟩ := g2 n2
  rw [show perC W x.1 y = (true, y.2, addPs W x.1 y.1) from if_neg n2]
  have w2' : J2 421 = W := (funext fun k => (Fm.tr f1 f2) 421 k rfl).trans h421
  refine a_l0 rfl rfl rfl ?_
  refine a_getq rfl gfX12_13_12 rfl (rfl) ?_
  refine a_l1 rfl rfl rfl ?_
  refine a_s rfl rfl ?_
  refine a_eS1 rfl lX12_56 mo_X12_personAt (sp_X12_personAt (d := pn W) (k := 0)) rfl rfl rfl rfl ?_
  refine a_l2 rfl rfl rfl ?_
  refine a_iastv (k := 11 + 2 * pn W) rfl (n := 2033) rfl (inI_nI (by omega) (by omega)) (nI_clamp (by omega)) ?_
  refine a_l0 rfl rfl rfl ?_
  refine a_getq rfl gfX12_13_12 rfl (rfl) ?_
  refine a_l1 rfl rfl rfl ?_
  refine a_s rfl rfl ?_
  refine a_eS1 rfl lX12_56 mo_X12_personAt (sp_X12_personAt (d := pn W) (k := 1)) rfl rfl rfl rfl ?_
  refine a_l3 rfl rfl rfl ?_
  refine a_iastv (k := 11 + 2 * pn W + 1) rfl (n := 2033) rfl (inI_nI (by omega) (by omega)) (nI_clamp (by omega)) ?_
  refine a_l0 rfl rfl rfl ?_
  refine a_getq rfl gfX12_13_12 rfl (rfl) ?_
  refine a_s rfl rfl ?_
  refine a_s rfl rfl ?_
  refine a_ialdv (v := nI (pn W)) rfl (n := 2033) rfl ⟨by decide, by decide⟩ ?_ ?_
  · show up2 (up2 J2 421 (11 + 2 * pn W) x.1) 421 (11 + 2 * pn W + 1) y.1 421 0 = nI (pn W)
    rw [u2_lo (by omega), u2_lo (by omega), w2']
    exact hW.2.2.1
  refine a_s rfl rfl ?_
  refine a_s rfl rfl ?_
  refine a_top (y := nI (pn W + 1)) ((nI_succ _).symm) ?_
  refine a_iastv (k := 0) rfl (n := 2033) rfl ⟨by decide, by decide⟩ rfl ?_
  refine a_s rfl rfl ?_
  refine a_zret rfl rfl rfl (QH.yes (p := p2) ⟨Fm.up (Fm.up (Fm.up f12 (sS_at (stC_of _ (by omega) (by omega) (by omega)))) (sS_at (stC_of _ (by omega) (by omega) (by omega)))) (sS_at rfl), ?_, b2, ?_⟩)
  · unfold Pp
    rw [up2_row (by decide), up2_row (by decide), up2_row (by decide)]
    exact q2
  · rw [up2_ud, up2_ud, up2_ud, w2']
    rfl
theorem h_du156 (hW : WOk W) (h12 : ¬ W 1 = 12) {x0 x1 x2 x3 x4 : Int32} {u5 u7 : Option Value} {J : Nat → Nat → Int32} (C : Hf T e b W I J p) : AW S m_X12_readDuty 21 (QH T e (true, b, addDt W x0 x1 x2 x3 x4) I L w1 w2 t) nX 0 0 156 [some (.ref 420), some (.int (nI (dn W))), some (.int x0), some (.int x1), some (.int x2), u5, some (.int x3), u7, some (.int x4)] [] (hp J L w1 w2 t) := by
  have hlt : dn W < 12 := by
    have := hW.2.1
    have : dn W ≠ 12 := fun z => h12 (by rw [hW.2.2.2, z]; rfl)
    omega
  refine a_l0 rfl rfl rfl ?_
  refine a_getq rfl gfX12_13_12 rfl (rfl) ?_
  refine a_l1 rfl rfl rfl ?_
  refine a_s rfl rfl ?_
  refine a_eS1 rfl lX12_60 mo_X12_at (sp_X12_at (d := dn W) (k := 0)) rfl rfl rfl rfl ?_
  refine a_l2 rfl rfl rfl ?_
  refine a_iastv (k := 23 + 6 * dn W + 0) rfl (n := 2033) rfl (inI_nI (by omega) (by omega)) (nI_clamp (by omega)) ?_
  refine a_l0 rfl rfl rfl ?_
  refine a_getq rfl gfX12_13_12 rfl (rfl) ?_
  refine a_l1 rfl rfl rfl ?_
  refine a_s rfl rfl ?_
  refine a_eS1 rfl lX12_60 mo_X12_at (sp_X12_at (d := dn W) (k := 1)) rfl rfl rfl rfl ?_
  refine a_l3 rfl rfl rfl ?_
  refine a_iastv (k := 23 + 6 * dn W + 1) rfl (n := 2033) rfl (inI_nI (by omega) (by omega)) (nI_clamp (by omega)) ?_
  refine a_l0 rfl rfl rfl ?_
  refine a_getq rfl gfX12_13_12 rfl (rfl) ?_
  refine a_l1 rfl rfl rfl ?_
  refine a_s rfl rfl ?_
  refine a_eS1 rfl lX12_60 mo_X12_at (sp_X12_at (d := dn W) (k := 2)) rfl rfl rfl rfl ?_
  refine a_l4 rfl rfl rfl ?_
  refine a_iastv (k := 23 + 6 * dn W + 2) rfl (n := 2033) rfl (inI_nI (by omega) (by omega)) (nI_clamp (by omega)) ?_
  refine a_l0 rfl rfl rfl ?_
  refine a_getq rfl gfX12_13_12 rfl (rfl) ?_
  refine a_l1 rfl rfl rfl ?_
  refine a_s rfl rfl ?_
  refine a_eS1 rfl lX12_60 mo_X12_at (sp_X12_at (d := dn W) (k := 3)) rfl rfl rfl rfl ?_
  refine a_l6 rfl rfl rfl ?_
  refine a_iastv (k := 23 + 6 * dn W + 3) rfl (n := 2033) rfl (inI_nI (by omega) (by omega)) (nI_clamp (by omega)) ?_
  refine a_l0 rfl rfl rfl ?_
  refine a_getq rfl gfX12_13_12 rfl (rfl) ?_
  refine a_l1 rfl rfl rfl ?_
  refine a_s rfl rfl ?_
  refine a_eS1 rfl lX12_60 mo_X12_at (sp_X12_at (d := dn W) (k := 4)) rfl rfl rfl rfl ?_
  refine a_l8 rfl rfl rfl ?_
  refine a_iastv (k := 23 + 6 * dn W + 4) rfl (n := 2033) rfl (inI_nI (by omega) (by omega)) (nI_clamp (by omega)) ?_
  refine a_l0 rfl rfl rfl ?_
  refine a_getq rfl gfX12_13_12 rfl (rfl) ?_
  refine a_l1 rfl rfl rfl ?_
  refine a_s rfl rfl ?_
  refine a_eS1 rfl lX12_60 mo_X12_at (sp_X12_at (d := dn W) (k := 5)) rfl rfl rfl rfl ?_
  refine a_s rfl rfl ?_
  refine a_iastv (k := 23 + 6 * dn W + 5) rfl (n := 2033) rfl (inI_nI (by omega) (by omega)) (nI_clamp (by omega)) ?_
  refine a_l0 rfl rfl rfl ?_
  refine a_getq rfl gfX12_13_12 rfl (rfl) ?_
  refine a_s rfl rfl ?_
  refine a_s rfl rfl ?_
  refine a_ialdv (v := nI (dn W)) rfl (n := 2033) rfl ⟨by decide, by decide⟩ ?_ ?_
  · show up2 (up2 (up2 (up2 (up2 (up2 J 421 (23 + 6 * dn W + 0) _) 421 (23 + 6 * dn W + 1) _) 421 (23 + 6 * dn W + 2) _) 421 (23 + 6 * dn W + 3) _) 421 (23 + 6 * dn W + 4) _) 421 (23 + 6 * dn W + 5) _ 421 1 = nI (dn W)
    rw [u2_lo (by omega), u2_lo (by omega), u2_lo (by omega), u2_lo (by omega), u2_lo (by omega), u2_lo (by omega), Hf.wd C]
    exact hW.2.2.2
  refine a_s rfl rfl ?_
  refine a_s rfl rfl ?_
  refine a_top (y := nI (dn W + 1)) ((nI_succ _).symm) ?_
  refine a_iastv (k := 1) rfl (n := 2033) rfl ⟨by decide, by decide⟩ rfl ?_
  refine a_s rfl rfl ?_
  refine a_zret rfl rfl rfl (QH.yes (p := p) ⟨dutH_fm hlt C.1, ?_, Hf.nb C, ?_⟩)
  · unfold Pp
    rw [up2_row (by decide), up2_row (by decide), up2_row (by decide), up2_row (by decide), up2_row (by decide), up2_row (by decide), up2_row (by decide)]
    exact Hf.pp C
  · rw [up2_ud, up2_ud, up2_ud, up2_ud, up2_ud, up2_ud, up2_ud, Hf.wd C]
    rfl
theorem h_du117 (hw : WdS S) (hW : WOk W) (h12 : ¬ W 1 = 12) (hT : I 426 = T) {x0 x1 x2 x3 : Int32} {u5 : Option Value} {J : Nat → Nat → Int32} (C : Hf T e b W I J p) : AW S m_X12_readDuty 21 (QH T e (duE W x0 x1 x2 x3 (optP T e 8 0 (W 1 - 1) (-1) b)) I L w1 w2 t) nX 0 0 117 [some (.ref 420), some (.int (nI (dn W))), some (.int x0), some (.int x1), some (.int x2), u5, some (.int x3), none, none] [] (hp J L w1 w2 t) := by
  have eT := Hf.tt C hT
  refine a_l0 rfl rfl rfl ?_
  refine a_ldcs (q := 130 + 8) rfl (hw.ld (i := 8) (by decide)) ?_
  refine a_gV rfl lX12_128 mo_X12_passes (h_passes (b := b) (k := 8) hw (by decide) (Hf.pp C) (by rw [eT]; exact Hf.nb C)) rfl rfl rfl ⟨12, _, rfl, rfl, rfl⟩ rfl (fun v' h' hv => ?_)
  obtain ⟨rfl, K, rfl, h2⟩ := hv
  rw [eT] at h2 ⊢
  obtain ⟨z, cz⟩ : ∃ z, isWd T e b 8 = z := ⟨_, rfl⟩
  rw [cz] at h2 ⊢
  refine a_s7 rfl rfl rfl rfl rfl rfl ?_
  refine a_l7 rfl rfl rfl ?_
  cases z with
  | false =>
    rw [if_neg Bool.false_ne_true] at h2
    rw [show optP T e 8 0 (W 1 - 1) (-1) b = (true, (-1), b) from if_neg (by rw [cz]; exact Bool.false_ne_true), show duE W x0 x1 x2 x3 (true, (-1), b) = (true, b, addDt W x0 x1 x2 x3 (-1)) from if_pos rfl]
    refine a_if_eq rfl (fun _ => ?_) (fun z => absurd rfl z)
    refine a_s rfl rfl ?_
    refine a_s8 rfl rfl rfl rfl rfl rfl ?_
    refine a_l7 rfl rfl rfl ?_
    refine a_if_eq rfl (fun _ => ?_) (fun z => absurd rfl z)
    exact h_du156 hW h12 (Hf.rd C h2 (Hf.sk C))
  | true =>
    rw [if_pos rfl] at h2
    refine a_if_eq rfl (fun z => absurd z (by decide)) (fun _ => ?_)
    have C2 : Hf T e (nx T e b) W I K (en T e b) := Hf.rd C h2 rfl
    have eT2 := Hf.tt C2 hT
    refine a_l0 rfl rfl rfl ?_
    refine a_s rfl rfl ?_
    refine a_l1 rfl rfl rfl ?_
    refine a_s rfl rfl ?_
    refine a_s rfl rfl ?_
    refine a_top (y := W 1 - 1) (by rw [hW.2.2.2]) ?_
    refine a_gV rfl lX12_113 mo_X12_number (h_number (b := nx T e b) (x := 0) (y := (W 1 - 1)) (Hf.pp C2) (by rw [eT2]; exact Hf.nb C2) (by decide)) rfl rfl rfl ⟨12, _, rfl, rfl, rfl⟩ rfl (fun v' h' hv => ?_)
    obtain ⟨rfl, K2, rfl, h3⟩ := hv
    rw [eT2] at h3 ⊢
    refine a_goto rfl ?_
    refine a_s8 rfl rfl rfl rfl rfl rfl ?_
    refine a_l7 rfl rfl rfl ?_
    refine a_if_eq rfl (fun z => absurd z (by decide)) (fun _ => ?_)
    refine a_l8 rfl rfl rfl ?_
    by_cases cn : nm T e (nx T e b) 0 (W 1 - 1) = -1
    · rw [show optP T e 8 0 (W 1 - 1) (-1) b = (false, -1, nx T e b) from (if_pos cz).trans (if_pos cn), show duE W x0 x1 x2 x3 (false, -1, nx T e b) = (false, nx T e b, W) from if_neg Bool.false_ne_true, cn]
      refine a_if_ge rfl (fun c => absurd c (by decide)) (fun _ => ?_)
      refine a_s rfl rfl ?_
      exact a_zret rfl rfl rfl (QH.no (Fm.tr C2.1 (Fm.mo (Rd.fm h3) sR_sS)) (Rd.be h3))
    · rw [show optP T e 8 0 (W 1 - 1) (-1) b = (true, nm T e (nx T e b) 0 (W 1 - 1), nx T e (nx T e b)) from (if_pos cz).trans (if_neg cn), show duE W x0 x1 x2 x3 (true, nm T e (nx T e b) 0 (W 1 - 1), nx T e (nx T e b)) = (true, (nx T e (nx T e b)), addDt W x0 x1 x2 x3 (nm T e (nx T e b) 0 (W 1 - 1))) from if_pos rfl]
      refine a_if_ge rfl (fun _ => ?_) (fun c => absurd (nm_in cn).1 c)
      exact h_du156 hW h12 (Hf.rd C2 h3 (by rw [← en_2 (nm_in cn).2.2.1]; rfl))
theorem h_du80 (hw : WdS S) (hW : WOk W) (h12 : ¬ W 1 = 12) (hT : I 426 = T) {x0 x1 x2 : Int32} {J : Nat → Nat → Int32} (C : Hf T e b W I J p) : AW S m_X12_readDuty 21 (QH T e (duD T e W x0 x1 x2 (optP T e 7 0 5 (-1) b)) I L w1 w2 t) nX 0 0 80 [some (.ref 420), some (.int (nI (dn W))), some (.int x0), some (.int x1), some (.int x2), none, none, none, none] [] (hp J L w1 w2 t) := by
  have eT := Hf.tt C hT
  refine a_l0 rfl rfl rfl ?_
  refine a_ldcs (q := 130 + 7) rfl (hw.ld (i := 7) (by decide)) ?_
  refine a_gV rfl lX12_128 mo_X12_passes (h_passes (b := b) (k := 7) hw (by decide) (Hf.pp C) (by rw [eT]; exact Hf.nb C)) rfl rfl rfl ⟨12, _, rfl, rfl, rfl⟩ rfl (fun v' h' hv => ?_)
  obtain ⟨rfl, K, rfl, h2⟩ := hv
  rw [eT] at h2 ⊢
  obtain ⟨z, cz⟩ : ∃ z, isWd T e b 7 = z := ⟨_, rfl⟩
  rw [cz] at h2 ⊢
  refine a_s5 rfl rfl rfl rfl rfl rfl ?_
  refine a_l5 rfl rfl rfl ?_
  cases z with
  | false =>
    rw [if_neg Bool.false_ne_true] at h2
    rw [show optP T e 7 0 5 (-1) b = (true, (-1), b) from if_neg (by rw [cz]; exact Bool.false_ne_true), show duD T e W x0 x1 x2 (true, (-1), b) = duE W x0 x1 x2 (-1) (optP T e 8 0 (W 1 - 1) (-1) b) from if_pos rfl]
    refine a_if_eq rfl (fun _ => ?_) (fun z => absurd rfl z)
    refine a_s rfl rfl ?_
    refine a_s6 rfl rfl rfl rfl rfl rfl ?_
    refine a_l5 rfl rfl rfl ?_
    refine a_if_eq rfl (fun _ => ?_) (fun z => absurd rfl z)
    exact h_du117 hw hW h12 hT (Hf.rd C h2 (Hf.sk C))
  | true =>
    rw [if_pos rfl] at h2
    refine a_if_eq rfl (fun z => absurd z (by decide)) (fun _ => ?_)
    have C2 : Hf T e (nx T e b) W I K (en T e b) := Hf.rd C h2 rfl
    have eT2 := Hf.tt C2 hT
    refine a_l0 rfl rfl rfl ?_
    refine a_s rfl rfl ?_
    refine a_s rfl rfl ?_
    refine a_gV rfl lX12_113 mo_X12_number (h_number (b := nx T e b) (x := 0) (y := 5) (Hf.pp C2) (by rw [eT2]; exact Hf.nb C2) (by decide)) rfl rfl rfl ⟨12, _, rfl, rfl, rfl⟩ rfl (fun v' h' hv => ?_)
    obtain ⟨rfl, K2, rfl, h3⟩ := hv
    rw [eT2] at h3 ⊢
    refine a_goto rfl ?_
    refine a_s6 rfl rfl rfl rfl rfl rfl ?_
    refine a_l5 rfl rfl rfl ?_
    refine a_if_eq rfl (fun z => absurd z (by decide)) (fun _ => ?_)
    refine a_l6 rfl rfl rfl ?_
    by_cases cn : nm T e (nx T e b) 0 5 = -1
    · rw [show optP T e 7 0 5 (-1) b = (false, -1, nx T e b) from (if_pos cz).trans (if_pos cn), show duD T e W x0 x1 x2 (false, -1, nx T e b) = (false, nx T e b, W) from if_neg Bool.false_ne_true, cn]
      refine a_if_ge rfl (fun c => absurd c (by decide)) (fun _ => ?_)
      refine a_s rfl rfl ?_
      exact a_zret rfl rfl rfl (QH.no (Fm.tr C2.1 (Fm.mo (Rd.fm h3) sR_sS)) (Rd.be h3))
    · rw [show optP T e 7 0 5 (-1) b = (true, nm T e (nx T e b) 0 5, nx T e (nx T e b)) from (if_pos cz).trans (if_neg cn), show duD T e W x0 x1 x2 (true, nm T e (nx T e b) 0 5, nx T e (nx T e b)) = duE W x0 x1 x2 (nm T e (nx T e b) 0 5) (optP T e 8 0 (W 1 - 1) (-1) (nx T e (nx T e b))) from if_pos rfl]
      refine a_if_ge rfl (fun _ => ?_) (fun c => absurd (nm_in cn).1 c)
      exact h_du117 hw hW h12 hT (Hf.rd C2 h3 (by rw [← en_2 (nm_in cn).2.2.1]; rfl))
theorem h_du51 (hw : WdS S) (hW : WOk W) (h12 : ¬ W 1 = 12) (hT : I 426 = T) {x0 x1 : Int32} {J : Nat → Nat → Int32} (C : Hf T e b W I J p) : AW S m_X12_readDuty 21 (QH T e (duC T e W x0 x1 (optP T e 6 0 99 0 b)) I L w1 w2 t) nX 0 0 51 [some (.ref 420), some (.int (nI (dn W))), some (.int x0), some (.int x1), none, none, none, none, none] [] (hp J L w1 w2 t) := by
  have eT := Hf.tt C hT
  refine a_l0 rfl rfl rfl ?_
  refine a_ldcs (q := 130 + 6) rfl (hw.ld (i := 6) (by decide)) ?_
  refine a_gV rfl lX12_128 mo_X12_passes (h_passes (b := b) (k := 6) hw (by decide) (Hf.pp C) (by rw [eT]; exact Hf.nb C)) rfl rfl rfl ⟨12, _, rfl, rfl, rfl⟩ rfl (fun v' h' hv => ?_)
  obtain ⟨rfl, K, rfl, h2⟩ := hv
  rw [eT] at h2 ⊢
  obtain ⟨z, cz⟩ : ∃ z, isWd T e b 6 = z := ⟨_, rfl⟩
  rw [cz] at h2 ⊢
  cases z with
  | false =>
    rw [if_neg Bool.false_ne_true] at h2
    rw [show optP T e 6 0 99 0 b = (true, 0, b) from if_neg (by rw [cz]; exact Bool.false_ne_true), show duC T e W x0 x1 (true, 0, b) = duD T e W x0 x1 0 (optP T e 7 0 5 (-1) b) from if_pos rfl]
    refine a_if_eq rfl (fun _ => ?_) (fun z => absurd rfl z)
    refine a_s rfl rfl ?_
    refine a_s4 rfl rfl rfl rfl rfl rfl ?_
    refine a_l4 rfl rfl rfl ?_
    refine a_if_ge rfl (fun _ => ?_) (fun z => absurd (by decide) z)
    exact h_du80 hw hW h12 hT (Hf.rd C h2 (Hf.sk C))
  | true =>
    rw [if_pos rfl] at h2
    refine a_if_eq rfl (fun z => absurd z (by decide)) (fun _ => ?_)
    have C2 : Hf T e (nx T e b) W I K (en T e b) := Hf.rd C h2 rfl
    have eT2 := Hf.tt C2 hT
    refine a_l0 rfl rfl rfl ?_
    refine a_s rfl rfl ?_
    refine a_s rfl rfl ?_
    refine a_gV rfl lX12_113 mo_X12_number (h_number (b := nx T e b) (x := 0) (y := 99) (Hf.pp C2) (by rw [eT2]; exact Hf.nb C2) (by decide)) rfl rfl rfl ⟨12, _, rfl, rfl, rfl⟩ rfl (fun v' h' hv => ?_)
    obtain ⟨rfl, K2, rfl, h3⟩ := hv
    rw [eT2] at h3 ⊢
    refine a_goto rfl ?_
    refine a_s4 rfl rfl rfl rfl rfl rfl ?_
    refine a_l4 rfl rfl rfl ?_
    by_cases cn : nm T e (nx T e b) 0 99 = -1
    · rw [show optP T e 6 0 99 0 b = (false, -1, nx T e b) from (if_pos cz).trans (if_pos cn), show duC T e W x0 x1 (false, -1, nx T e b) = (false, nx T e b, W) from if_neg Bool.false_ne_true, cn]
      refine a_if_ge rfl (fun c => absurd c (by decide)) (fun _ => ?_)
      refine a_s rfl rfl ?_
      exact a_zret rfl rfl rfl (QH.no (Fm.tr C2.1 (Fm.mo (Rd.fm h3) sR_sS)) (Rd.be h3))
    · rw [show optP T e 6 0 99 0 b = (true, nm T e (nx T e b) 0 99, nx T e (nx T e b)) from (if_pos cz).trans (if_neg cn), show duC T e W x0 x1 (true, nm T e (nx T e b) 0 99, nx T e (nx T e b)) = duD T e W x0 x1 (nm T e (nx T e b) 0 99) (optP T e 7 0 5 (-1) (nx T e (nx T e b))) from if_pos rfl]
      refine a_if_ge rfl (fun _ => ?_) (fun c => absurd (nm_in cn).1 c)
      exact h_du80 hw hW h12 hT (Hf.rd C2 h3 (by rw [← en_2 (nm_in cn).2.2.1]; rfl))
theorem h_readDuty (hw : WdS S) (hT : I 426 = T) (hq : Pp e p I) (hn : rn T e 4 p = nx T e b) (h12 : I 420 12 = nI b) (h421 : I 421 = W) (hW : WOk W) : Sp S m_X12_readDuty 21 0 0 [.ref 420] (hp I L w1 w2 t) (QH T e (dutP T e b W) I L w1 w2 t) nX := by
  have hd12 := hW.2.1
  refine Sp_of ok_X12_readDuty rfl rfl ?_
  show AW S m_X12_readDuty 21 _ _ 0 0 0 [some (.ref 420), none, none, none, none, none, none, none, none] [] (hp I L w1 w2 t)
  refine a_l0 rfl rfl rfl ?_
  refine a_eV1 rfl lX12_74 mo_X12_duties sp_X12_duties rfl rfl rfl ⟨12, _, rfl, rfl, rfl⟩ rfl ?_
  refine a_top (y := nI (dn W)) (by rw [h421]; exact hW.2.2.2) ?_
  refine a_s1 rfl rfl rfl rfl rfl rfl ?_
  refine a_l1 rfl rfl rfl ?_
  refine a_s rfl rfl ?_
  refine a_ic_ne rfl (fun c => ?_) (fun c => ?_)
  rotate_left
  · rw [show dutP T e b W = (false, b, W) from if_pos (hW.2.2.2.trans c)]
    refine a_s rfl rfl ?_
    exact a_zret rfl rfl rfl (QH.no Fm.rf h12)
  have h12' : ¬ W 1 = 12 := fun z => c (hW.2.2.2.symm.trans z)
  rw [show dutP T e b W = duA T e W (nbP T e 4 0 (W 0 - 1) (nx T e b)) from if_neg h12']
  refine a_l0 rfl rfl rfl ?_
  refine a_ldcs (q := 130 + 4) rfl (hw.ld (i := 4) (by decide)) ?_
  refine a_s rfl rfl ?_
  refine a_l0 rfl rfl rfl ?_
  refine a_eV1 rfl lX12_66 mo_X12_people sp_X12_people rfl rfl rfl ⟨12, _, rfl, rfl, rfl⟩ rfl ?_
  refine a_s rfl rfl ?_
  refine a_s rfl rfl ?_
  refine a_top (y := W 0 - 1) (by rw [h421]) ?_
  refine a_gV rfl lX12_117 mo_X12_numberBehind (h_numberBehind (k := 4) (lo := 0) (hi := W 0 - 1) hw hT (by decide) hq hn (by decide)) rfl rfl rfl ⟨12, _, rfl, rfl, rfl⟩ rfl (fun v' h' hv => ?_)
  obtain ⟨rfl, J1, p1, rfl, f1, g1, z1⟩ := hv
  have hx := nbP_ge0 (T := T) (e := e) (b := nx T e b) (k := 4) (lo := 0) (hi := W 0 - 1) (by decide)
  generalize nbP T e 4 0 (W 0 - 1) (nx T e b) = x at g1 z1 hx ⊢
  refine a_s2 rfl rfl rfl rfl rfl rfl ?_
  refine a_l2 rfl rfl rfl ?_
  refine a_if_ge rfl (fun c1 => ?_) (fun c1 => ?_)
  rotate_left
  · have e1 := hx.resolve_right c1
    rw [show duA T e W x = (false, x.2, W) from if_pos e1]
    refine a_s rfl rfl ?_
    refine a_goto rfl ?_
    refine a_s3 rfl rfl rfl rfl rfl rfl ?_
    refine a_l3 rfl rfl rfl ?_
    refine a_if_ge rfl (fun c => absurd c (by decide)) (fun _ => ?_)
    refine a_s rfl rfl ?_
    exact a_zret rfl rfl rfl (QH.no (Fm.mo f1 sR_sS) (z1 e1))
  have n1 : ¬ x.1 = -1 := fun z => by
    rw [z] at c1
    exact absurd c1 (by decide)
  obtain ⟨q1, b1⟩ := g1 n1
  rw [show duA T e W x = duB T e W x.1 (nbP T e 5 1 99 x.2) from if_neg n1]
  have eT1 : J1 426 = T := (funext fun k => f1 426 k rfl).trans hT
  refine a_l0 rfl rfl rfl ?_
  refine a_ldcs (q := 130 + 5) rfl (hw.ld (i := 5) (by decide)) ?_
  refine a_s rfl rfl ?_
  refine a_s rfl rfl ?_
  refine a_gV rfl lX12_117 mo_X12_numberBehind (h_numberBehind (k := 5) (lo := 1) (hi := 99) hw eT1 (by decide) q1 b1 (by decide)) rfl rfl rfl ⟨12, _, rfl, rfl, rfl⟩ rfl (fun v' h' hv => ?_)
  obtain ⟨rfl, J2, p2, rfl, f2, g2, z2⟩ := hv
  have hy := nbP_ge0 (T := T) (e := e) (b := x.2) (k := 5) (lo := 1) (hi := 99) (by decide)
  generalize nbP T e 5 1 99 x.2 = y at g2 z2 hy ⊢
  have f12 : Fm sS I J2 := Fm.mo (Fm.tr f1 f2) sR_sS
  refine a_s3 rfl rfl rfl rfl rfl rfl ?_
  refine a_l3 rfl rfl rfl ?_
  refine a_if_ge rfl (fun c2 => ?_) (fun c2 => ?_)
  rotate_left
  · have e2 := hy.resolve_right c2
    rw [show duB T e W x.1 y = (false, y.2, W) from if_pos e2]
    refine a_s rfl rfl ?_
    exact a_zret rfl rfl rfl (QH.no f12 (z2 e2))
  have n2 : ¬ y.1 = -1 := fun z => by
    rw [z] at c2
    exact absurd c2 (by decide)
  obtain ⟨q2, b2⟩ := g2 n2
  rw [show duB T e W x.1 y = duC T e W x.1 y.1 (optP T e 6 0 99 0 y.2) from if_neg n2]
  exact h_du51 hw hW h12' hT ⟨f12, q2, b2, (funext fun k => (Fm.tr f1 f2) 421 k rfl).trans h421⟩
theorem h_readStreetLine (hw : WdS S) (hT : I 426 = T) (h12 : I 420 12 = nI b) (hbp : b ≤ p) (hq : Pp e p I) (hp1 : p = rn T e 1 b) (h421 : I 421 = W) (hW : WOk W) : Sp S m_X12_readStreetLine 22 0 0 [.ref 420] (hp I L w1 w2 t) (QH T e (linP T e b W) I L w1 w2 t) nX := by
  have hi : ∀ k, k < 27 → isW (I 426) b (p - b) k = isWd T e b k := fun k hk => by
    rw [hT, hp1]
    exact isW_wd hk
  have hn : ∀ {k}, isWd T e b k = true → rn T e 4 p = nx T e b := fun {k} z => by
    rw [hp1, ← en_1 (of_decide_eq_true z).1]
    rfl
  refine Sp_of ok_X12_readStreetLine rfl rfl ?_
  show AW S m_X12_readStreetLine 22 _ _ 0 0 0 [some (.ref 420)] [] (hp I L w1 w2 t)
  refine a_l0 rfl rfl rfl ?_
  refine a_ldcs (q := 130 + 0) rfl (hw.ld (i := 0) (by decide)) ?_
  refine a_eV1 rfl lX12_109 mo_X12_isWord (h_isWord (k := 0) hw (by decide) h12 hbp hq) rfl rfl rfl ⟨12, _, rfl, rfl, rfl⟩ rfl ?_
  obtain ⟨z, cz⟩ : ∃ z, isWd T e b 0 = z := ⟨_, rfl⟩
  refine a_top (y := bI z) (congrArg bI ((hi 0 (by decide)).trans cz)) ?_
  cases z with
  | true =>
    refine a_if_eq rfl (fun z => absurd z (by decide)) (fun _ => ?_)
    rw [show linP T e b W = perP T e b W from if_pos cz]
    refine a_l0 rfl rfl rfl ?_
    refine a_gV rfl lX12_141 mo_X12_readPerson (h_readPerson hw hT hq (hn cz) h12 h421 hW) rfl rfl rfl ⟨12, _, rfl, rfl, rfl⟩ rfl (fun v' h' hv => ?_)
    obtain ⟨rfl, J, p', rfl, y, n⟩ := hv
    exact a_zret rfl rfl (bI_nar _) ⟨rfl, J, p', rfl, y, n⟩
  | false =>
  have n0 : ¬ isWd T e b 0 = true := by rw [cz]; exact Bool.false_ne_true
  clear cz
  refine a_if_eq rfl (fun _ => ?_) (fun z => absurd rfl z)
  refine a_l0 rfl rfl rfl ?_
  refine a_ldcs (q := 130 + 3) rfl (hw.ld (i := 3) (by decide)) ?_
  refine a_eV1 rfl lX12_109 mo_X12_isWord (h_isWord (k := 3) hw (by decide) h12 hbp hq) rfl rfl rfl ⟨12, _, rfl, rfl, rfl⟩ rfl ?_
  obtain ⟨z, cz⟩ : ∃ z, isWd T e b 3 = z := ⟨_, rfl⟩
  refine a_top (y := bI z) (congrArg bI ((hi 3 (by decide)).trans cz)) ?_
  cases z with
  | true =>
    refine a_if_eq rfl (fun z => absurd z (by decide)) (fun _ => ?_)
    rw [show linP T e b W = dutP T e b W from (if_neg n0).trans (if_pos cz)]
    refine a_l0 rfl rfl rfl ?_
    refine a_gV rfl lX12_147 mo_X12_readDuty (h_readDuty hw hT hq (hn cz) h12 h421 hW) rfl rfl rfl ⟨12, _, rfl, rfl, rfl⟩ rfl (fun v' h' hv => ?_)
    obtain ⟨rfl, J, p', rfl, y, n⟩ := hv
    exact a_zret rfl rfl (bI_nar _) ⟨rfl, J, p', rfl, y, n⟩
  | false =>
  have n3 : ¬ isWd T e b 3 = true := by rw [cz]; exact Bool.false_ne_true
  clear cz
  refine a_if_eq rfl (fun _ => ?_) (fun z => absurd rfl z)
  refine a_l0 rfl rfl rfl ?_
  refine a_ldcs (q := 130 + 9) rfl (hw.ld (i := 9) (by decide)) ?_
  refine a_eV1 rfl lX12_109 mo_X12_isWord (h_isWord (k := 9) hw (by decide) h12 hbp hq) rfl rfl rfl ⟨12, _, rfl, rfl, rfl⟩ rfl ?_
  obtain ⟨z, cz⟩ : ∃ z, isWd T e b 9 = z := ⟨_, rfl⟩
  refine a_top (y := bI z) (congrArg bI ((hi 9 (by decide)).trans cz)) ?_
  cases z with
  | true =>
    refine a_if_eq rfl (fun z => absurd z (by decide)) (fun _ => ?_)
    rw [show linP T e b W = forP T e (nx T e b) W from (if_neg n0).trans ((if_neg n3).trans (if_pos cz))]
    refine a_l0 rfl rfl rfl ?_
    refine a_gV rfl lX12_152 mo_X12_readForgotten (h_readForgotten (b := nx T e b) hT hq (hn cz) h421 hW) rfl rfl rfl ⟨12, _, rfl, rfl, rfl⟩ rfl (fun v' h' hv => ?_)
    obtain ⟨rfl, J, p', rfl, y, n⟩ := hv
    exact a_zret rfl rfl (bI_nar _) ⟨rfl, J, p', rfl, y, n⟩
  | false =>
  have n9 : ¬ isWd T e b 9 = true := by rw [cz]; exact Bool.false_ne_true
  clear cz
  refine a_if_eq rfl (fun _ => ?_) (fun z => absurd rfl z)
  refine a_l0 rfl rfl rfl ?_
  refine a_ldcs (q := 130 + 10) rfl (hw.ld (i := 10) (by decide)) ?_
  refine a_eV1 rfl lX12_109 mo_X12_isWord (h_isWord (k := 10) hw (by decide) h12 hbp hq) rfl rfl rfl ⟨12, _, rfl, rfl, rfl⟩ rfl ?_
  obtain ⟨z, cz⟩ : ∃ z, isWd T e b 10 = z := ⟨_, rfl⟩
  refine a_top (y := bI z) (congrArg bI ((hi 10 (by decide)).trans cz)) ?_
  cases z with
  | true =>
    refine a_if_eq rfl (fun z => absurd z (by decide)) (fun _ => ?_)
    rw [show linP T e b W = setP T e (nx T e b) W 6 0 100 from (if_neg n0).trans ((if_neg n3).trans ((if_neg n9).trans (if_pos cz)))]
    refine a_l0 rfl rfl rfl ?_
    refine a_s rfl rfl ?_
    refine a_s rfl rfl ?_
    refine a_s rfl rfl ?_
    refine a_gV rfl lX12_157 mo_X12_readNumber (h_readNumber (i := 6) (b := nx T e b) hT hq (hn cz) h421 (by decide) (by decide) (by decide)) rfl rfl rfl ⟨12, _, rfl, rfl, rfl⟩ rfl (fun v' h' hv => ?_)
    obtain ⟨rfl, J, p', rfl, y, n⟩ := hv
    exact a_zret rfl rfl (bI_nar _) ⟨rfl, J, p', rfl, y, n⟩
  | false =>
  have n10 : ¬ isWd T e b 10 = true := by rw [cz]; exact Bool.false_ne_true
  clear cz
  refine a_if_eq rfl (fun _ => ?_) (fun z => absurd rfl z)
  refine a_l0 rfl rfl rfl ?_
  refine a_ldcs (q := 130 + 11) rfl (hw.ld (i := 11) (by decide)) ?_
  refine a_eV1 rfl lX12_109 mo_X12_isWord (h_isWord (k := 11) hw (by decide) h12 hbp hq) rfl rfl rfl ⟨12, _, rfl, rfl, rfl⟩ rfl ?_
  obtain ⟨z, cz⟩ : ∃ z, isWd T e b 11 = z := ⟨_, rfl⟩
  refine a_top (y := bI z) (congrArg bI ((hi 11 (by decide)).trans cz)) ?_
  cases z with
  | true =>
    refine a_if_eq rfl (fun z => absurd z (by decide)) (fun _ => ?_)
    rw [show linP T e b W = setP T e (nx T e b) W 7 1 9 from (if_neg n0).trans ((if_neg n3).trans ((if_neg n9).trans ((if_neg n10).trans (if_pos cz))))]
    refine a_l0 rfl rfl rfl ?_
    refine a_s rfl rfl ?_
    refine a_s rfl rfl ?_
    refine a_s rfl rfl ?_
    refine a_gV rfl lX12_157 mo_X12_readNumber (h_readNumber (i := 7) (b := nx T e b) hT hq (hn cz) h421 (by decide) (by decide) (by decide)) rfl rfl rfl ⟨12, _, rfl, rfl, rfl⟩ rfl (fun v' h' hv => ?_)
    obtain ⟨rfl, J, p', rfl, y, n⟩ := hv
    exact a_zret rfl rfl (bI_nar _) ⟨rfl, J, p', rfl, y, n⟩
  | false =>
  have n11 : ¬ isWd T e b 11 = true := by rw [cz]; exact Bool.false_ne_true
  clear cz
  refine a_if_eq rfl (fun _ => ?_) (fun z => absurd rfl z)
  refine a_l0 rfl rfl rfl ?_
  refine a_ldcs (q := 130 + 12) rfl (hw.ld (i := 12) (by decide)) ?_
  refine a_eV1 rfl lX12_109 mo_X12_isWord (h_isWord (k := 12) hw (by decide) h12 hbp hq) rfl rfl rfl ⟨12, _, rfl, rfl, rfl⟩ rfl ?_
  obtain ⟨z, cz⟩ : ∃ z, isWd T e b 12 = z := ⟨_, rfl⟩
  refine a_top (y := bI z) (congrArg bI ((hi 12 (by decide)).trans cz)) ?_
  cases z with
  | true =>
    refine a_if_eq rfl (fun z => absurd z (by decide)) (fun _ => ?_)
    rw [show linP T e b W = setP T e (nx T e b) W 8 0 50 from (if_neg n0).trans ((if_neg n3).trans ((if_neg n9).trans ((if_neg n10).trans ((if_neg n11).trans (if_pos cz)))))]
    refine a_l0 rfl rfl rfl ?_
    refine a_s rfl rfl ?_
    refine a_s rfl rfl ?_
    refine a_s rfl rfl ?_
    refine a_gV rfl lX12_157 mo_X12_readNumber (h_readNumber (i := 8) (b := nx T e b) hT hq (hn cz) h421 (by decide) (by decide) (by decide)) rfl rfl rfl ⟨12, _, rfl, rfl, rfl⟩ rfl (fun v' h' hv => ?_)
    obtain ⟨rfl, J, p', rfl, y, n⟩ := hv
    exact a_zret rfl rfl (bI_nar _) ⟨rfl, J, p', rfl, y, n⟩
  | false =>
  have n12 : ¬ isWd T e b 12 = true := by rw [cz]; exact Bool.false_ne_true
  clear cz
  refine a_if_eq rfl (fun _ => ?_) (fun z => absurd rfl z)
  refine a_l0 rfl rfl rfl ?_
  refine a_ldcs (q := 130 + 13) rfl (hw.ld (i := 13) (by decide)) ?_
  refine a_eV1 rfl lX12_109 mo_X12_isWord (h_isWord (k := 13) hw (by decide) h12 hbp hq) rfl rfl rfl ⟨12, _, rfl, rfl, rfl⟩ rfl ?_
  obtain ⟨z, cz⟩ : ∃ z, isWd T e b 13 = z := ⟨_, rfl⟩
  refine a_top (y := bI z) (congrArg bI ((hi 13 (by decide)).trans cz)) ?_
  cases z with
  | true =>
    refine a_if_eq rfl (fun z => absurd z (by decide)) (fun _ => ?_)
    rw [show linP T e b W = setP T e (nx T e b) W 4 1 30 from (if_neg n0).trans ((if_neg n3).trans ((if_neg n9).trans ((if_neg n10).trans ((if_neg n11).trans ((if_neg n12).trans (if_pos cz))))))]
    refine a_l0 rfl rfl rfl ?_
    refine a_s rfl rfl ?_
    refine a_s rfl rfl ?_
    refine a_s rfl rfl ?_
    refine a_gV rfl lX12_157 mo_X12_readNumber (h_readNumber (i := 4) (b := nx T e b) hT hq (hn cz) h421 (by decide) (by decide) (by decide)) rfl rfl rfl ⟨12, _, rfl, rfl, rfl⟩ rfl (fun v' h' hv => ?_)
    obtain ⟨rfl, J, p', rfl, y, n⟩ := hv
    exact a_zret rfl rfl (bI_nar _) ⟨rfl, J, p', rfl, y, n⟩
  | false =>
  have n13 : ¬ isWd T e b 13 = true := by rw [cz]; exact Bool.false_ne_true
  clear cz
  refine a_if_eq rfl (fun _ => ?_) (fun z => absurd rfl z)
  refine a_l0 rfl rfl rfl ?_
  refine a_ldcs (q := 130 + 14) rfl (hw.ld (i := 14) (by decide)) ?_
  refine a_eV1 rfl lX12_109 mo_X12_isWord (h_isWord (k := 14) hw (by decide) h12 hbp hq) rfl rfl rfl ⟨12, _, rfl, rfl, rfl⟩ rfl ?_
  obtain ⟨z, cz⟩ : ∃ z, isWd T e b 14 = z := ⟨_, rfl⟩
  refine a_top (y := bI z) (congrArg bI ((hi 14 (by decide)).trans cz)) ?_
  cases z with
  | true =>
    refine a_if_eq rfl (fun z => absurd z (by decide)) (fun _ => ?_)
    rw [show linP T e b W = setP T e (nx T e b) W 5 0 999 from (if_neg n0).trans ((if_neg n3).trans ((if_neg n9).trans ((if_neg n10).trans ((if_neg n11).trans ((if_neg n12).trans ((if_neg n13).trans (if_pos cz)))))))]
    refine a_l0 rfl rfl rfl ?_
    refine a_s rfl rfl ?_
    refine a_s rfl rfl ?_
    refine a_s rfl rfl ?_
    refine a_gV rfl lX12_157 mo_X12_readNumber (h_readNumber (i := 5) (b := nx T e b) hT hq (hn cz) h421 (by decide) (by decide) (by decide)) rfl rfl rfl ⟨12, _, rfl, rfl, rfl⟩ rfl (fun v' h' hv => ?_)
    obtain ⟨rfl, J, p', rfl, y, n⟩ := hv
    generalize setP T e (nx T e b) W 5 0 999 = r at y n ⊢
    obtain ⟨z, b', W'⟩ := r
    cases z with
    | false =>
      refine a_if_eq rfl (fun _ => ?_) (fun z => absurd rfl z)
      refine a_s rfl rfl ?_
      exact a_zret rfl rfl rfl ⟨rfl, J, p', rfl, y, n⟩
    | true =>
      refine a_if_eq rfl (fun z => absurd (show (1 : Int32) = 0 from z) (by decide)) (fun _ => ?_)
      refine a_s rfl rfl ?_
      refine a_goto rfl ?_
      exact a_zret rfl rfl rfl ⟨rfl, J, p', rfl, y, n⟩
  | false =>
  have n14 : ¬ isWd T e b 14 = true := by rw [cz]; exact Bool.false_ne_true
  clear cz
  refine a_if_eq rfl (fun _ => ?_) (fun z => absurd rfl z)
  refine a_s rfl rfl ?_
  rw [show linP T e b W = (false, b, W) from (if_neg n0).trans ((if_neg n3).trans ((if_neg n9).trans ((if_neg n10).trans ((if_neg n11).trans ((if_neg n12).trans ((if_neg n13).trans (if_neg n14)))))))]
  exact a_zret rfl rfl rfl (QH.no Fm.rf h12)
theorem h_readLineS (hw : WdS S) (hT : I 426 = T) (hq : Pp e p I) (hb : rn T e 4 p = b) (h421 : I 421 = W) (hW : WOk W) {i : Nat} (hi : i ≤ 14) : Sp S m_X12_readLine 60 0 0 [.ref 420, .int (bI true), .int (nI i)] (hp I L w1 w2 t) (QH T e (if i < 14 then linP T e b W else (false, b, W)) I L w1 w2 t) nX := by
  refine Sp_of ok_X12_readLine rfl rfl ?_
  show AW S m_X12_readLine 60 _ _ 0 0 0 [some (.ref 420), some (.int (bI true)), some (.int (nI i))] [] (hp I L w1 w2 t)
  refine a_l0 rfl rfl rfl ?_
  refine a_gV rfl lX12_106 mo_X12_letters (h_letters hq) rfl rfl rfl ⟨12, _, rfl, rfl, rfl⟩ rfl (fun v' h' hv => ?_)
  obtain ⟨rfl, J, rfl, h1⟩ := hv
  rw [hT, hb] at h1
  have f1 : Fm sS I J := Fm.mo (Rd.fm h1) sR_sS
  refine a_l2 rfl rfl rfl ?_
  refine a_l1 rfl rfl rfl ?_
  refine a_if_eq rfl (fun c => absurd c (by decide)) (fun _ => ?_)
  refine a_s rfl rfl ?_
  refine a_goto rfl ?_
  refine a_ic_ge rfl (fun c => ?_) (fun c => ?_)
  · have n14 := nI_ge_of (b := 14) c (by omega) (by decide)
    rw [if_neg (Nat.not_lt.mpr n14)]
    refine a_s rfl rfl ?_
    exact a_zret rfl rfl rfl (QH.no f1 (Rd.be h1))
  have i14 := nI_lt_of (b := 14) c (by omega) (by decide)
  rw [if_pos i14]
  refine a_l1 rfl rfl rfl ?_
  refine a_if_eq rfl (fun c => absurd c (by decide)) (fun _ => ?_)
  refine a_l0 rfl rfl rfl ?_
  refine a_gV rfl lX12_226 mo_X12_readStreetLine (h_readStreetLine hw ((Rd.T h1).trans hT) (Rd.be h1) (Rd.bp h1) (Rd.pp h1) rfl ((Rd.w h1).trans h421) hW) rfl rfl rfl ⟨12, _, rfl, rfl, rfl⟩ rfl (fun v' h' hv => ?_)
  replace hv := QH.be f1 hv
  obtain ⟨rfl, J2, p2, rfl, y, n⟩ := hv
  generalize linP T e b W = r at y n ⊢
  obtain ⟨z, b', W'⟩ := r
  cases z with
  | false =>
    refine a_if_eq rfl (fun _ => ?_) (fun z => absurd rfl z)
    refine a_s rfl rfl ?_
    exact a_zret rfl rfl rfl ⟨rfl, J2, p2, rfl, y, n⟩
  | true =>
    refine a_if_eq rfl (fun z => absurd (show (1 : Int32) = 0 from z) (by decide)) (fun _ => ?_)
    refine a_goto rfl ?_
    refine a_s rfl rfl ?_
    refine a_goto rfl ?_
    exact a_zret rfl rfl rfl ⟨rfl, J2, p2, rfl, y, n⟩
end T79o
