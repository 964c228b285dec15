/-! ===== the reference's signs, words, numbers, as functions of the tape ===== -/
section T79g
variable {S : aS} {I : Nat → Nat → Int32} {L : Nat → Nat → Int64} {w1 w2 t : Nat} {e p b : Nat}
set_option maxRecDepth 100000
theorem kc4 {x : Int32} : kcF x = 4 ↔ x = 32 := by
  unfold kcF
  by_cases c : x = 32
  · rw [if_pos c]
    exact ⟨fun _ => c, fun _ => rfl⟩
  · rw [if_neg c]
    refine ⟨fun z => ?_, fun z => absurd z c⟩
    by_cases c2 : 97 ≤ x ∧ x ≤ 122
    · rw [if_pos c2] at z
      cases z
    · rw [if_neg c2] at z
      by_cases c3 : 48 ≤ x ∧ x ≤ 57
      · rw [if_pos c3] at z
        cases z
      · rw [if_neg c3] at z
        cases z
theorem kc1 {x : Int32} : kcF x = 1 ↔ 97 ≤ x ∧ x ≤ 122 := by
  unfold kcF
  by_cases c : x = 32
  · rw [if_pos c]
    refine ⟨fun z => (by cases z), fun z => ?_⟩
    rw [c] at z
    exact absurd z.1 (by decide)
  · rw [if_neg c]
    by_cases c2 : 97 ≤ x ∧ x ≤ 122
    · rw [if_pos c2]
      exact ⟨fun _ => c2, fun _ => rfl⟩
    · rw [if_neg c2]
      refine ⟨fun z => ?_, fun z => absurd z c2⟩
      by_cases c3 : 48 ≤ x ∧ x ≤ 57
      · rw [if_pos c3] at z
        cases z
      · rw [if_neg c3] at z
        cases z
theorem kc2 {x : Int32} : kcF x = 2 ↔ 48 ≤ x ∧ x ≤ 57 := by
  unfold kcF
  by_cases c : x = 32
  · rw [if_pos c]
    refine ⟨fun z => (by cases z), fun z => ?_⟩
    rw [c] at z
    exact absurd z.1 (by decide)
  · rw [if_neg c]
    by_cases c2 : 97 ≤ x ∧ x ≤ 122
    · rw [if_pos c2]
      refine ⟨fun z => (by cases z), fun z => absurd (Int32.le_trans c2.1 z.2) (by decide)⟩
    · rw [if_neg c2]
      by_cases c3 : 48 ≤ x ∧ x ≤ 57
      · rw [if_pos c3]
        exact ⟨fun _ => c3, fun _ => rfl⟩
      · rw [if_neg c3]
        exact ⟨fun z => (by cases z), fun z => absurd z c3⟩
def atB (T : Nat → Int32) (e p : Nat) (x y : Int32) : Bool := decide (p < e ∧ x ≤ T p ∧ T p ≤ y)
theorem at_b {T : Nat → Int32} : atB T e p 32 32 = isK T e 4 p := by
  unfold atB isK
  congr 1
  refine propext ⟨fun z => ⟨z.1, kc4.mpr (Int32.le_antisymm z.2.2 z.2.1)⟩, fun z => ?_⟩
  have := kc4.mp z.2
  rw [this]
  exact ⟨z.1, by decide, by decide⟩
theorem at_l {T : Nat → Int32} : atB T e p 97 122 = isK T e 1 p := by
  unfold atB isK
  congr 1
  exact propext ⟨fun z => ⟨z.1, kc1.mpr z.2⟩, fun z => ⟨z.1, kc1.mp z.2⟩⟩
theorem at_d {T : Nat → Int32} : atB T e p 48 57 = isK T e 2 p := by
  unfold atB isK
  congr 1
  exact propext ⟨fun z => ⟨z.1, kc2.mpr z.2⟩, fun z => ⟨z.1, kc2.mp z.2⟩⟩
theorem at_s {T : Nat → Int32} {c : Nat} (hbt : BtT T) (he : e ≤ 400) (hc : c ∈ [40, 41, 43, 59, 60, 62]) : atB T e p (nI c) (nI c) = sg T e p (nI c) := by
  unfold atB sg
  congr 1
  by_cases hp : p < e
  · obtain ⟨n, hn, en⟩ := hbt p (by omega)
    obtain ⟨g1, g2⟩ := bt_sg n hn c hc
    rw [← en] at g1 g2
    refine propext ⟨fun z => ?_, fun z => ?_⟩
    · have e1 := Int32.le_antisymm z.2.2 z.2.1
      have k3 := (kd_lt hp).trans (g2 e1)
      exact ⟨k3, (vl_3 k3).trans (g1.mpr e1)⟩
    · have e1 := g1.mp ((vl_3 z.1).symm.trans z.2)
      rw [e1]
      exact ⟨hp, Int32.le_refl _, Int32.le_refl _⟩
  · refine propext ⟨fun z => absurd z.1 hp, fun z => absurd (kd_in (by rw [z.1]; decide)) hp⟩
theorem Rd.T {b p' : Nat} {J : Nat → Nat → Int32} (h : Rd e p b p' I J) : J 426 = I 426 := funext fun k => Rd.fm h 426 k rfl
theorem isW_wd {T : Nat → Int32} {k : Nat} (hk : k < 27) : isW T b (rn T e 1 b - b) k = isWd T e b k := by
  by_cases c : kd T e b = 1
  · rw [← en_1 c]
    cases h : isW T b (en T e b - b) k with
    | true => exact (decide_eq_true ⟨c, wd_eq hk h⟩).symm
    | false =>
      refine (decide_eq_false fun z => ?_).symm
      have h2 := wd_is (T := T) (e := e) (b := b) (by rw [z.2]; exact hk)
      rw [z.2, h] at h2
      cases h2
  · have e1 : rn T e 1 b = b := rn_f (Bool.eq_false_iff.mpr fun z => c ((kd_lt (isK_lt z)).trans (isK_kc z)))
    have := wLen_pos k hk
    rw [e1, show isWd T e b k = false from decide_eq_false fun z => c z.1]
    exact decide_eq_false fun z => by have := z.1; omega
theorem h_isAt (hq : Pp e p I) {x y : Int32} : SpE S m_X12_isAt 12 [.ref 420, .int x, .int y] (hp I L w1 w2 t) (some (.int (bI (atB (I 426) e p x y)))) (hp I L w1 w2 t) := by
  obtain ⟨h1, h2, h3, h4⟩ := hq
  refine SpE_of ok_X12_isAt rfl rfl ?_
  show AW S m_X12_isAt 12 _ _ 0 0 0 [some (.ref 420), some (.int x), some (.int y)] [] (hp I L w1 w2 t)
  have no : ¬ (p < e ∧ x ≤ I 426 p ∧ I 426 p ≤ y) → AW S m_X12_isAt 12 (fun v h' => v = some (.int (bI (atB (I 426) e p x y))) ∧ h' = hp I L w1 w2 t) (fun _ _ => False) 0 0 41 [some (.ref 420), some (.int x), some (.int y)] [] (hp I L w1 w2 t) := by
    intro hn
    refine a_s rfl rfl ?_
    refine a_zret rfl rfl rfl ⟨?_, rfl⟩
    rw [show atB (I 426) e p x y = false from decide_eq_false hn]
    rfl
  refine a_l0 rfl rfl rfl ?_
  refine a_geti rfl gfX12_81_12 rfl ?_
  refine a_top (y := nI p) (h1) ?_
  refine a_l0 rfl rfl rfl ?_
  refine a_geti rfl gfX12_84_12 rfl ?_
  refine a_top (y := nI e) (h2) ?_
  refine a_ic_ge rfl (fun c => no fun z => absurd (nI_ge_of c (by omega) (by omega)) (Nat.not_le.mpr z.1)) (fun c => ?_)
  have hlt : p < e := nI_lt_of c (by omega) (by omega)
  refine a_l0 rfl rfl rfl ?_
  refine a_getq rfl gfX12_29_12 rfl (rfl) ?_
  refine a_l0 rfl rfl rfl ?_
  refine a_geti rfl gfX12_81_12 rfl ?_
  refine a_top (y := nI p) (h1) ?_
  refine a_baldv (v := I 426 p) rfl (n := 400) rfl (inI_nI (by omega) (by omega)) (by rw [nI_clamp (by omega)]) ?_
  refine a_l1 rfl rfl rfl ?_
  refine a_ic_lt rfl (fun c => no fun z => absurd c (Int32.not_lt.mpr z.2.1)) (fun c1 => ?_)
  refine a_l0 rfl rfl rfl ?_
  refine a_getq rfl gfX12_29_12 rfl (rfl) ?_
  refine a_l0 rfl rfl rfl ?_
  refine a_geti rfl gfX12_81_12 rfl ?_
  refine a_top (y := nI p) (h1) ?_
  refine a_baldv (v := I 426 p) rfl (n := 400) rfl (inI_nI (by omega) (by omega)) (by rw [nI_clamp (by omega)]) ?_
  refine a_l2 rfl rfl rfl ?_
  refine a_ic_gt rfl (fun c => no fun z => absurd c (Int32.not_lt.mpr z.2.2)) (fun c2 => ?_)
  refine a_s rfl rfl ?_
  refine a_goto rfl ?_
  refine a_zret rfl rfl rfl ⟨?_, rfl⟩
  rw [show atB (I 426) e p x y = true from decide_eq_true ⟨hlt, Int32.not_lt.mp c1, Int32.not_lt.mp c2⟩]
  rfl
theorem h_blanks (hq : Pp e p I) : Sp S m_X12_blanks 13 0 0 [.ref 420] (hp I L w1 w2 t) (fun v h' => v = none ∧ ∃ J, h' = hp J L w1 w2 t ∧ Rd e p (rn (I 426) e 4 p) (rn (I 426) e 4 p) I J) nX := by
  refine Sp_of ok_X12_blanks rfl rfl ?_
  show AW S m_X12_blanks 13 _ _ 0 0 0 [some (.ref 420)] [] (hp I L w1 w2 t)
  refine a_inv (n := e - p) (fun m ls h => ls = [some (.ref 420)] ∧ ∃ J p', h = hp J L w1 w2 t ∧ Fm sR I J ∧ p ≤ p' ∧ Pp e p' J ∧ rn (I 426) e 4 p = rn (I 426) e 4 p' ∧ m = e - p') ⟨rfl, I, p, rfl, Fm.rf, Nat.le_refl _, hq, rfl, rfl⟩ ?_
  rintro m _ _ ⟨rfl, J, p', rfl, f, hpp, hq', hr, hm⟩ ih
  have eT : J 426 = I 426 := funext fun k => f 426 k rfl
  refine a_l0 rfl rfl rfl ?_
  refine a_s rfl rfl ?_
  refine a_s rfl rfl ?_
  refine a_eV1 rfl lX12_87 mo_X12_isAt (h_isAt hq') rfl rfl rfl ⟨12, _, rfl, rfl, rfl⟩ rfl ?_
  refine a_top (y := bI (isK (I 426) e 4 p')) (by rw [eT]; exact congrArg bI at_b) ?_
  cases c : isK (I 426) e 4 p' with
  | false =>
    refine a_if_eq rfl (fun _ => ?_) (fun z => absurd rfl z)
    rw [hr, rn_f c]
    refine a_l0 rfl rfl rfl ?_
    refine a_l0 rfl rfl rfl ?_
    refine a_geti rfl gfX12_81_12 rfl ?_
    refine a_top (y := nI p') (Pp.pu hq') ?_
    refine a_puti rfl pfX12_91_12 rfl ?_
    exact a_vret rfl rfl ⟨rfl, _, rfl, Fm.up f rfl, hpp, Nat.le_refl _, up2_at, Pp.bg hq'⟩
  | true =>
    refine a_if_eq rfl (fun z => absurd z (by decide)) (fun _ => ?_)
    have hb' := isK_lt c
    refine a_l0 rfl rfl rfl ?_
    refine a_s rfl rfl ?_
    refine a_geti rfl gfX12_81_12 rfl ?_
    refine a_top (y := nI p') (Pp.pu hq') ?_
    refine a_s rfl rfl ?_
    refine a_s rfl rfl ?_
    refine a_top (y := nI (p' + 1)) ((nI_succ _).symm) ?_
    refine a_puti rfl pfX12_81_12 rfl ?_
    refine a_goto rfl ?_
    exact ih (e - (p' + 1)) _ _ (by omega) ⟨rfl, _, p' + 1, rfl, Fm.up f rfl, by omega, Pp.to hq' hb', hr.trans (rn_t c), rfl⟩
theorem h_letters (hq : Pp e p I) : Sp S m_X12_letters 14 0 0 [.ref 420] (hp I L w1 w2 t) (fun v h' => v = none ∧ ∃ J, h' = hp J L w1 w2 t ∧ Rd e p (rn (I 426) e 4 p) (rn (I 426) e 1 (rn (I 426) e 4 p)) I J) nX := by
  refine Sp_of ok_X12_letters rfl rfl ?_
  show AW S m_X12_letters 14 _ _ 0 0 0 [some (.ref 420)] [] (hp I L w1 w2 t)
  refine a_l0 rfl rfl rfl ?_
  refine a_gV rfl lX12_94 mo_X12_blanks (h_blanks hq) rfl rfl rfl ⟨12, _, rfl, rfl, rfl⟩ rfl (fun v' h' hv => ?_)
  obtain ⟨rfl, J1, rfl, h1⟩ := hv
  generalize rn (I 426) e 4 p = b at h1 ⊢
  refine a_inv (n := e - b) (fun m ls h => ls = [some (.ref 420)] ∧ ∃ J p', h = hp J L w1 w2 t ∧ Rd e p b p' I J ∧ rn (I 426) e 1 b = rn (I 426) e 1 p' ∧ m = e - p') ⟨rfl, J1, b, rfl, h1, rfl, rfl⟩ ?_
  rintro m _ _ ⟨rfl, J, p', rfl, h, hr, hm⟩ ih
  refine a_l0 rfl rfl rfl ?_
  refine a_s rfl rfl ?_
  refine a_s rfl rfl ?_
  refine a_eV1 rfl lX12_87 mo_X12_isAt (h_isAt (Rd.pp h)) rfl rfl rfl ⟨12, _, rfl, rfl, rfl⟩ rfl ?_
  refine a_top (y := bI (isK (I 426) e 1 p')) (by rw [Rd.T h]; exact congrArg bI at_l) ?_
  cases c : isK (I 426) e 1 p' with
  | false =>
    refine a_if_eq rfl (fun _ => ?_) (fun z => absurd rfl z)
    rw [hr, rn_f c]
    exact a_vret rfl rfl ⟨rfl, _, rfl, h⟩
  | true =>
    refine a_if_eq rfl (fun z => absurd z (by decide)) (fun _ => ?_)
    have hb' := isK_lt c
    refine a_l0 rfl rfl rfl ?_
    refine a_s rfl rfl ?_
    refine a_geti rfl gfX12_81_12 rfl ?_
    refine a_top (y := nI p') (Pp.pu (Rd.pp h)) ?_
    refine a_s rfl rfl ?_
    refine a_s rfl rfl ?_
    refine a_top (y := nI (p' + 1)) ((nI_succ _).symm) ?_
    refine a_puti rfl pfX12_81_12 rfl ?_
    refine a_goto rfl ?_
    exact ih (e - (p' + 1)) _ _ (by omega) ⟨rfl, _, p' + 1, rfl, Rd.up h hb', hr.trans (rn_t c), rfl⟩
theorem h_isWord {k : Nat} (hw : WdS S) (hk : k < 27) (h12 : I 420 12 = nI b) (hbp : b ≤ p) (hq : Pp e p I) : SpE S m_X12_isWord 16 [.ref 420, .ref (130 + k)] (hp I L w1 w2 t) (some (.int (bI (isW (I 426) b (p - b) k)))) (hp I L w1 w2 t) := by
  obtain ⟨h1, h2, h3, h4⟩ := hq
  have hl1 := wLen_pos k hk
  have hl2 := wLen_lt k hk
  refine SpE_of ok_X12_isWord rfl rfl ?_
  show AW S m_X12_isWord 16 _ _ 0 0 0 [some (.ref 420), some (.ref (130 + k)), none, none] [] (hp I L w1 w2 t)
  have key : ∀ z : Bool, (z = true ↔ p - b = wLen k) → AW S m_X12_isWord 16 (fun v h' => v = some (.int (bI (isW (I 426) b (p - b) k))) ∧ h' = hp I L w1 w2 t) (fun _ _ => False) 0 0 21 [some (.ref 420), some (.ref (130 + k)), none, none] [.int (bI z)] (hp I L w1 w2 t) := by
    intro z hz
    refine a_s2 rfl rfl rfl rfl rfl rfl ?_
    refine a_s rfl rfl ?_
    refine a_s3 rfl rfl rfl rfl rfl rfl ?_
    refine a_inv (n := wLen k + 1) (fun m ls h => ∃ z i, ls = [some (.ref 420), some (.ref (130 + k)), some (.int (bI z)), some (.int (nI i))] ∧ h = hp I L w1 w2 t ∧ i ≤ wLen k ∧ m = wLen k + 1 - i ∧ (z = true ↔ (p - b = wLen k ∧ ∀ q, q < i → I 426 (b + q) = wC k q))) ⟨z, 0, rfl, rfl, Nat.zero_le _, rfl, hz.trans ⟨fun y => ⟨y, fun q hq => absurd hq (Nat.not_lt_zero _)⟩, fun y => y.1⟩⟩ ?_
    rintro m _ _ ⟨z, i, rfl, rfl, hi, hm, hz⟩ ih
    have out : isW (I 426) b (p - b) k = z → AW S m_X12_isWord 16 (fun v h' => v = some (.int (bI (isW (I 426) b (p - b) k))) ∧ h' = hp I L w1 w2 t) (fun _ _ => False) 0 0 67 [some (.ref 420), some (.ref (130 + k)), some (.int (bI z)), some (.int (nI i))] [] (hp I L w1 w2 t) := by
      intro ez
      refine a_l2 rfl rfl rfl ?_
      exact a_zret rfl rfl (bI_nar _) ⟨by rw [ez], rfl⟩
    refine a_l2 rfl rfl rfl ?_
    cases z with
    | false =>
      refine a_if_eq rfl (fun _ => out (decide_eq_false fun y => ?_)) (fun y => absurd rfl y)
      have := hz.mpr ⟨y.1, fun q hq => y.2 q (by omega)⟩
      cases this
    | true =>
    refine a_if_eq rfl (fun y => absurd y (by decide)) (fun _ => ?_)
    obtain ⟨hpb, hq⟩ := hz.mp rfl
    refine a_l3 rfl rfl rfl ?_
    refine a_l1 rfl rfl rfl ?_
    refine a_eK1 rfl lX12_97 mo_J0_length_8abf5 (q_strlen hw hk) rfl rfl rfl (hw.so hk) rfl ?_
    refine a_ic_ge rfl (fun c2 => ?_) (fun c2 => ?_)
    · have := nI_ge_of c2 (by omega) hl2
      exact out (decide_eq_true ⟨hpb, fun q hq2 => hq q (by omega)⟩)
    have hjl : i < wLen k := nI_lt_of c2 (by omega) hl2
    refine a_l0 rfl rfl rfl ?_
    refine a_getq rfl gfX12_29_12 rfl (rfl) ?_
    refine a_l0 rfl rfl rfl ?_
    refine a_geti rfl gfX12_91_12 rfl ?_
    refine a_top (y := nI b) (h12) ?_
    refine a_l3 rfl rfl rfl ?_
    refine a_s rfl rfl ?_
    refine a_top (y := nI (b + i)) (nI_addl _ _) ?_
    refine a_baldv (v := I 426 (b + i)) rfl (n := 400) rfl (inI_nI (by omega) (by omega)) (by rw [nI_clamp (by omega)]) ?_
    refine a_l1 rfl rfl rfl ?_
    refine a_l3 rfl rfl rfl ?_
    refine a_eK1 rfl lX12_102 mo_J0_charAt_5068e (q_charAt hw hk hjl) rfl rfl rfl (hw.so hk) rfl ?_
    have back : ∀ z' : Bool, (z' = true ↔ I 426 (b + i) = wC k i) → AW S m_X12_isWord 16 (fun v h' => v = some (.int (bI (isW (I 426) b (p - b) k))) ∧ h' = hp I L w1 w2 t) (fun _ _ => False) 0 0 60 [some (.ref 420), some (.ref (130 + k)), some (.int (bI true)), some (.int (nI i))] [.int (bI z')] (hp I L w1 w2 t) := by
      intro z' hz'
      refine a_s2 rfl rfl rfl rfl rfl rfl ?_
      refine a_iv3 (y := nI (i + 1)) rfl rfl rfl ((nI_succ i).symm) ?_
      refine a_goto rfl ?_
      refine ih (wLen k + 1 - (i + 1)) _ _ (by omega) ⟨z', i + 1, rfl, rfl, by omega, rfl, ?_⟩
      refine hz'.trans ⟨fun y => ⟨hpb, fun q hq2 => ?_⟩, fun y => y.2 i (Nat.lt_succ_self i)⟩
      by_cases cq : q = i
      · rw [cq]
        exact y
      · exact hq q (by omega)
    refine a_ic_ne rfl (fun c3 => ?_) (fun c3 => ?_)
    · refine a_s rfl rfl ?_
      exact back false ⟨fun y => (by cases y), fun y => absurd y c3⟩
    · refine a_s rfl rfl ?_
      refine a_goto rfl ?_
      exact back true ⟨fun _ => c3, fun _ => rfl⟩
  refine a_l0 rfl rfl rfl ?_
  refine a_geti rfl gfX12_81_12 rfl ?_
  refine a_top (y := nI p) (h1) ?_
  refine a_l0 rfl rfl rfl ?_
  refine a_geti rfl gfX12_91_12 rfl ?_
  refine a_top (y := nI b) (h12) ?_
  refine a_s rfl rfl ?_
  refine a_top (y := nI (p - b)) (nI_sub hbp) ?_
  refine a_l1 rfl rfl rfl ?_
  refine a_eK1 rfl lX12_97 mo_J0_length_8abf5 (q_strlen hw hk) rfl rfl rfl (hw.so hk) rfl ?_
  refine a_ic_ne rfl (fun c => ?_) (fun c => ?_)
  · refine a_s rfl rfl ?_
    exact key false ⟨fun z => (by cases z), fun z => absurd (congrArg nI z) c⟩
  · refine a_s rfl rfl ?_
    refine a_goto rfl ?_
    exact key true ⟨fun _ => nI_inj (by omega) hl2 c, fun _ => rfl⟩
theorem h_passes {k : Nat} (hw : WdS S) (hk : k < 27) (hq : Pp e p I) (hb : rn (I 426) e 4 p = b) : Sp S m_X12_passes 17 0 0 [.ref 420, .ref (130 + k)] (hp I L w1 w2 t) (fun v h' => v = some (.int (bI (isWd (I 426) e b k))) ∧ ∃ J, h' = hp J L w1 w2 t ∧ Rd e p b (if isWd (I 426) e b k = true then en (I 426) e b else b) I J) nX := by
  refine Sp_of ok_X12_passes rfl rfl ?_
  show AW S m_X12_passes 17 _ _ 0 0 0 [some (.ref 420), some (.ref (130 + k))] [] (hp I L w1 w2 t)
  refine a_l0 rfl rfl rfl ?_
  refine a_gV rfl lX12_106 mo_X12_letters (h_letters hq) rfl rfl rfl ⟨12, _, rfl, rfl, rfl⟩ rfl (fun v' h' hv => ?_)
  obtain ⟨rfl, J, rfl, h⟩ := hv
  rw [hb] at h
  refine a_l0 rfl rfl rfl ?_
  refine a_l1 rfl rfl rfl ?_
  refine a_eV1 rfl lX12_109 mo_X12_isWord (h_isWord hw hk (Rd.be h) (Rd.bp h) (Rd.pp h)) rfl rfl rfl ⟨12, _, rfl, rfl, rfl⟩ rfl ?_
  refine a_top (y := bI (isWd (I 426) e b k)) (by rw [Rd.T h]; exact congrArg bI (isW_wd hk)) ?_
  cases c : isWd (I 426) e b k with
  | false =>
    refine a_if_eq rfl (fun _ => ?_) (fun z => absurd rfl z)
    refine a_l0 rfl rfl rfl ?_
    refine a_l0 rfl rfl rfl ?_
    refine a_geti rfl gfX12_91_12 rfl ?_
    refine a_top (y := nI b) (Rd.be h) ?_
    refine a_puti rfl pfX12_81_12 rfl ?_
    refine a_s rfl rfl ?_
    exact a_zret rfl rfl rfl ⟨rfl, _, rfl, Rd.rs h⟩
  | true =>
    refine a_if_eq rfl (fun z => absurd z (by decide)) (fun _ => ?_)
    refine a_s rfl rfl ?_
    refine a_zret rfl rfl rfl ⟨rfl, J, rfl, ?_⟩
    rw [if_pos rfl, en_1 (of_decide_eq_true c).1]
    exact h
theorem h_sign {c : Nat} (hbt : BtT (I 426)) (hc : c ∈ [40, 41, 43, 59, 60, 62]) (hq : Pp e p I) (hb : rn (I 426) e 4 p = b) : Sp S m_X12_sign 14 0 0 [.ref 420, .int (nI c)] (hp I L w1 w2 t) (fun v h' => v = some (.int (bI (sg (I 426) e b (nI c)))) ∧ ∃ J, h' = hp J L w1 w2 t ∧ Rd e p b (if sg (I 426) e b (nI c) = true then en (I 426) e b else b) I J) nX := by
  have he4 := Pp.e4 hq
  refine Sp_of ok_X12_sign rfl rfl ?_
  show AW S m_X12_sign 14 _ _ 0 0 0 [some (.ref 420), some (.int (nI c))] [] (hp I L w1 w2 t)
  refine a_l0 rfl rfl rfl ?_
  refine a_gV rfl lX12_94 mo_X12_blanks (h_blanks hq) rfl rfl rfl ⟨12, _, rfl, rfl, rfl⟩ rfl (fun v' h' hv => ?_)
  obtain ⟨rfl, J, rfl, h⟩ := hv
  rw [hb] at h
  refine a_l0 rfl rfl rfl ?_
  refine a_l1 rfl rfl rfl ?_
  refine a_l1 rfl rfl rfl ?_
  refine a_eV1 rfl lX12_87 mo_X12_isAt (h_isAt (Rd.pp h)) rfl rfl rfl ⟨12, _, rfl, rfl, rfl⟩ rfl ?_
  refine a_top (y := bI (sg (I 426) e b (nI c))) (by rw [Rd.T h]; exact congrArg bI (at_s hbt he4 hc)) ?_
  cases cs : sg (I 426) e b (nI c) with
  | true =>
    refine a_if_ne rfl (fun _ => ?_) (fun z => absurd z (by decide))
    refine a_l0 rfl rfl rfl ?_
    refine a_s rfl rfl ?_
    refine a_geti rfl gfX12_81_12 rfl ?_
    refine a_top (y := nI b) (Pp.pu (Rd.pp h)) ?_
    refine a_s rfl rfl ?_
    refine a_s rfl rfl ?_
    refine a_top (y := nI (b + 1)) ((nI_succ _).symm) ?_
    refine a_puti rfl pfX12_81_12 rfl ?_
    refine a_s rfl rfl ?_
    refine a_zret rfl rfl rfl ⟨rfl, _, rfl, ?_⟩
    rw [if_pos rfl, en_3 (of_decide_eq_true cs).1]
    exact Rd.up h (sg_lt cs)
  | false =>
    refine a_if_ne rfl (fun z => absurd rfl z) (fun _ => ?_)
    refine a_s rfl rfl ?_
    exact a_zret rfl rfl rfl ⟨rfl, J, rfl, h⟩
theorem h_number (hq : Pp e p I) (hb : rn (I 426) e 4 p = b) {x y : Int32} (h0 : 0 ≤ x) : Sp S m_X12_number 14 0 0 [.ref 420, .int x, .int y] (hp I L w1 w2 t) (fun v h' => v = some (.int (nm (I 426) e b x y)) ∧ ∃ J, h' = hp J L w1 w2 t ∧ Rd e p b (rn (I 426) e 2 b) I J) nX := by
  refine Sp_of ok_X12_number rfl rfl ?_
  show AW S m_X12_number 14 _ _ 0 0 0 [some (.ref 420), some (.int x), some (.int y), none] [] (hp I L w1 w2 t)
  refine a_l0 rfl rfl rfl ?_
  refine a_gV rfl lX12_94 mo_X12_blanks (h_blanks hq) rfl rfl rfl ⟨12, _, rfl, rfl, rfl⟩ rfl (fun v' h' hv => ?_)
  obtain ⟨rfl, J1, rfl, h1⟩ := hv
  rw [hb] at h1
  refine a_s rfl rfl ?_
  refine a_s3 rfl rfl rfl rfl rfl rfl ?_
  refine a_inv (n := e - b) (fun m ls h => ∃ J p', ls = [some (.ref 420), some (.int x), some (.int y), some (.int (nuF (I 426) b (if p' - b < 3 then p' - b else 3)))] ∧ h = hp J L w1 w2 t ∧ Rd e p b p' I J ∧ rn (I 426) e 2 b = rn (I 426) e 2 p' ∧ m = e - p') ⟨J1, b, by rw [Nat.sub_self]; rfl, rfl, h1, rfl, rfl⟩ ?_
  rintro m _ _ ⟨J, p', rfl, rfl, h, hr, hm⟩ ih
  have hbp := Rd.bp h
  have hpe := Pp.le (Rd.pp h)
  have he4 := Pp.e4 (Rd.pp h)
  refine a_l0 rfl rfl rfl ?_
  refine a_s rfl rfl ?_
  refine a_s rfl rfl ?_
  refine a_eV1 rfl lX12_87 mo_X12_isAt (h_isAt (Rd.pp h)) rfl rfl rfl ⟨12, _, rfl, rfl, rfl⟩ rfl ?_
  refine a_top (y := bI (isK (I 426) e 2 p')) (by rw [Rd.T h]; exact congrArg bI at_d) ?_
  cases ck : isK (I 426) e 2 p' with
  | false =>
    refine a_if_eq rfl (fun _ => ?_) (fun z => absurd rfl z)
    rw [rn_f ck] at hr
    have no : nm (I 426) e b x y = -1 → AW S m_X12_number 14 (fun v h' => v = some (.int (nm (I 426) e b x y)) ∧ ∃ J, h' = hp J L w1 w2 t ∧ Rd e p b (rn (I 426) e 2 b) I J) nX 0 0 99 [some (.ref 420), some (.int x), some (.int y), some (.int (nuF (I 426) b (if p' - b < 3 then p' - b else 3)))] [] (hp J L w1 w2 t) := by
      intro hn
      refine a_s rfl rfl ?_
      refine a_goto rfl ?_
      refine a_iret rfl rfl ⟨by rw [hn], J, rfl, ?_⟩
      rw [hr]
      exact h
    refine a_l0 rfl rfl rfl ?_
    refine a_geti rfl gfX12_81_12 rfl ?_
    refine a_top (y := nI p') (Pp.pu (Rd.pp h)) ?_
    refine a_l0 rfl rfl rfl ?_
    refine a_geti rfl gfX12_91_12 rfl ?_
    refine a_top (y := nI b) (Rd.be h) ?_
    refine a_ic_eq rfl (fun c => no (if_neg fun z => ?_)) (fun cne => ?_)
    · have c := nI_inj (by omega) (by omega) c
      have := rn_t (kd_isK (by decide) z.1)
      have h9 := rn_ge (T := I 426) (e := e) (k := 2) (p := b + 1)
      omega
    have hlt : b < p' := by
      rcases Nat.lt_or_ge b p' with g | g
      · exact g
      · exact absurd (congrArg nI (show p' = b by omega)) cne
    have hk2 : kd (I 426) e b = 2 := by
      have h9 := rn_all (T := I 426) (e := e) (k := 2) (p := b) (q := b) (Nat.le_refl _) (by omega)
      exact (kd_lt (isK_lt h9)).trans (isK_kc h9)
    have een : en (I 426) e b = p' := (en_2 hk2).trans hr
    refine a_l0 rfl rfl rfl ?_
    refine a_geti rfl gfX12_81_12 rfl ?_
    refine a_top (y := nI p') (Pp.pu (Rd.pp h)) ?_
    refine a_l0 rfl rfl rfl ?_
    refine a_geti rfl gfX12_91_12 rfl ?_
    refine a_top (y := nI b) (Rd.be h) ?_
    refine a_s rfl rfl ?_
    refine a_top (y := nI (p' - b)) (nI_sub hbp) ?_
    refine a_s rfl rfl ?_
    refine a_ic_gt rfl (fun c => no (if_neg fun z => ?_)) (fun c3 => ?_)
    · have c := (nI_lt_iff (a := 3) (b := p' - b) (by decide) (by omega)).mp c
      have z2 := z.2.1
      rw [vl_2 hk2, een, if_pos c] at z2
      exact absurd (Int32.le_trans h0 z2) (by decide)
    have h3 : p' - b ≤ 3 := Nat.not_lt.mp fun z => c3 ((nI_lt_iff (a := 3) (b := p' - b) (by decide) (by omega)).mpr z)
    have ev : vl (I 426) e b = nuF (I 426) b (if p' - b < 3 then p' - b else 3) := by
      rw [vl_2 hk2, een, if_neg (by omega)]
      by_cases c : p' - b < 3
      · rw [if_pos c]
      · rw [if_neg c, show p' - b = 3 by omega]
    rw [← ev]
    rw [← ev] at no
    refine a_l3 rfl rfl rfl ?_
    refine a_l1 rfl rfl rfl ?_
    refine a_ic_lt rfl (fun c => no (if_neg fun z => absurd c (Int32.not_lt.mpr z.2.1))) (fun c1 => ?_)
    refine a_l3 rfl rfl rfl ?_
    refine a_l2 rfl rfl rfl ?_
    refine a_ic_le rfl (fun c2 => ?_) (fun c2 => no (if_neg fun z => c2 z.2.2))
    refine a_l3 rfl rfl rfl ?_
    refine a_iret rfl rfl ⟨?_, J, rfl, ?_⟩
    · rw [show nm (I 426) e b x y = vl (I 426) e b from if_pos ⟨hk2, Int32.not_lt.mp c1, c2⟩]
    · rw [hr]
      exact h
  | true =>
    refine a_if_eq rfl (fun z => absurd z (by decide)) (fun _ => ?_)
    have hb' := isK_lt ck
    have back : ∀ a' : Int32, a' = nuF (I 426) b (if p' + 1 - b < 3 then p' + 1 - b else 3) → AW S m_X12_number 14 (fun v h' => v = some (.int (nm (I 426) e b x y)) ∧ ∃ J, h' = hp J L w1 w2 t ∧ Rd e p b (rn (I 426) e 2 b) I J) nX 0 0 51 [some (.ref 420), some (.int x), some (.int y), some (.int (nuF (I 426) b (if p' - b < 3 then p' - b else 3)))] [.int a'] (hp J L w1 w2 t) := by
      intro a' ha'
      refine a_s3 rfl rfl rfl rfl rfl rfl ?_
      refine a_l0 rfl rfl rfl ?_
      refine a_s rfl rfl ?_
      refine a_geti rfl gfX12_81_12 rfl ?_
      refine a_top (y := nI p') (Pp.pu (Rd.pp h)) ?_
      refine a_s rfl rfl ?_
      refine a_s rfl rfl ?_
      refine a_top (y := nI (p' + 1)) ((nI_succ _).symm) ?_
      refine a_puti rfl pfX12_81_12 rfl ?_
      refine a_goto rfl ?_
      rw [ha']
      exact ih (e - (p' + 1)) _ _ (by omega) ⟨_, p' + 1, rfl, rfl, Rd.up h hb', hr.trans (rn_t ck), rfl⟩
    refine a_l0 rfl rfl rfl ?_
    refine a_geti rfl gfX12_81_12 rfl ?_
    refine a_top (y := nI p') (Pp.pu (Rd.pp h)) ?_
    refine a_l0 rfl rfl rfl ?_
    refine a_geti rfl gfX12_91_12 rfl ?_
    refine a_top (y := nI b) (Rd.be h) ?_
    refine a_s rfl rfl ?_
    refine a_top (y := nI (p' - b)) (nI_sub hbp) ?_
    refine a_s rfl rfl ?_
    refine a_ic_ge rfl (fun c => ?_) (fun c => ?_)
    · have h3 := nI_ge_of (b := 3) c (by omega) (by decide)
      refine a_l3 rfl rfl rfl ?_
      exact back _ (by rw [if_neg (by omega), if_neg (by omega)])
    · have h3 := nI_lt_of (b := 3) c (by omega) (by decide)
      refine a_s rfl rfl ?_
      refine a_l3 rfl rfl rfl ?_
      refine a_s rfl rfl ?_
      refine a_l0 rfl rfl rfl ?_
      refine a_getq rfl gfX12_29_12 rfl (rfl) ?_
      refine a_l0 rfl rfl rfl ?_
      refine a_geti rfl gfX12_81_12 rfl ?_
      refine a_top (y := nI p') (Pp.pu (Rd.pp h)) ?_
      refine a_baldv (v := I 426 p') rfl (n := 400) rfl (inI_nI (by omega) (by omega)) (by rw [nI_clamp (by omega), Rd.T h]) ?_
      refine a_s rfl rfl ?_
      refine a_s rfl rfl ?_
      refine a_s rfl rfl ?_
      refine a_goto rfl ?_
      refine back _ ?_
      rw [if_pos h3]
      have e1 : (if p' + 1 - b < 3 then p' + 1 - b else 3) = (p' - b) + 1 := by
        by_cases c4 : p' + 1 - b < 3
        · rw [if_pos c4]
          omega
        · rw [if_neg c4]
          omega
      rw [e1]
      show _ = nuF (I 426) b (p' - b) * 10 + I 426 (b + (p' - b)) - 48
      rw [show b + (p' - b) = p' by omega, Int32.mul_comm]
end T79g
