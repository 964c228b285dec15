/-! ===== the reference: the text, sign by sign ===== -/
section T67
variable {S : aS} {I : Nat → Nat → Int32} {L : Nat → Nat → Int64} {w1 w2 t : Nat} {e p : Nat}
set_option maxRecDepth 100000
/-- the point and the end of what is read -/
def Pp (e p : Nat) (J : Nat → Nat → Int32) : Prop := J 420 10 = nI p ∧ J 420 11 = nI e ∧ p ≤ e ∧ e ≤ 400
def sR (q k : Nat) : Bool := Nat.beq q 420 && (Nat.beq k 10 || Nat.beq k 12)
/-- read on from p: the last sign or word or number is that from b to p' -/
def Rd (e p b p' : Nat) (I J : Nat → Nat → Int32) : Prop := Fm sR I J ∧ p ≤ b ∧ b ≤ p' ∧ J 420 12 = nI b ∧ Pp e p' J
theorem Pp.pu {J : Nat → Nat → Int32} (h : Pp e p J) : J 420 10 = nI p := h.1
theorem Pp.en {J : Nat → Nat → Int32} (h : Pp e p J) : J 420 11 = nI e := h.2.1
theorem Pp.le {J : Nat → Nat → Int32} (h : Pp e p J) : p ≤ e := h.2.2.1
theorem Pp.e4 {J : Nat → Nat → Int32} (h : Pp e p J) : e ≤ 400 := h.2.2.2
theorem Pp.to {J : Nat → Nat → Int32} {p0 : Nat} (h : Pp e p J) (h2 : p0 ≤ e) : Pp e p0 (up2 J 420 10 (nI p0)) := ⟨up2_at, (up2_ne (Or.inr (by decide))).trans h.2.1, h2, h.2.2.2⟩
theorem Pp.bg {J : Nat → Nat → Int32} {x : Int32} (h : Pp e p J) : Pp e p (up2 J 420 12 x) := ⟨(up2_ne (Or.inr (by decide))).trans h.1, (up2_ne (Or.inr (by decide))).trans h.2.1, h.2.2.1, h.2.2.2⟩
theorem Rd.fm {b p' : Nat} {J : Nat → Nat → Int32} (h : Rd e p b p' I J) : Fm sR I J := h.1
theorem Rd.pb {b p' : Nat} {J : Nat → Nat → Int32} (h : Rd e p b p' I J) : p ≤ b := h.2.1
theorem Rd.bp {b p' : Nat} {J : Nat → Nat → Int32} (h : Rd e p b p' I J) : b ≤ p' := h.2.2.1
theorem Rd.be {b p' : Nat} {J : Nat → Nat → Int32} (h : Rd e p b p' I J) : J 420 12 = nI b := h.2.2.2.1
theorem Rd.pp {b p' : Nat} {J : Nat → Nat → Int32} (h : Rd e p b p' I J) : Pp e p' J := h.2.2.2.2
theorem Rd.up {b p' : Nat} {J : Nat → Nat → Int32} (h : Rd e p b p' I J) (h2 : p' < e) : Rd e p b (p' + 1) I (up2 J 420 10 (nI (p' + 1))) := by
  have := Rd.bp h
  exact ⟨Fm.up (Rd.fm h) rfl, Rd.pb h, by omega, (up2_ne (Or.inr (by decide))).trans (Rd.be h), Pp.to (Rd.pp h) h2⟩
theorem Rd.rs {b p' : Nat} {J : Nat → Nat → Int32} (h : Rd e p b p' I J) : Rd e p b b I (up2 J 420 10 (nI b)) := by
  have := Rd.bp h
  have := Pp.le (Rd.pp h)
  exact ⟨Fm.up (Rd.fm h) rfl, Rd.pb h, Nat.le_refl _, (up2_ne (Or.inr (by decide))).trans (Rd.be h), Pp.to (Rd.pp h) (by omega)⟩
theorem Rd.tr {b p' b2 p2 : Nat} {J K : Nat → Nat → Int32} (h : Rd e p b p' I J) (h2 : Rd e p' b2 p2 J K) : Rd e p b2 p2 I K := by
  have := Rd.pb h
  have := Rd.bp h
  have := Rd.pb h2
  exact ⟨Fm.tr (Rd.fm h) (Rd.fm h2), by omega, Rd.bp h2, Rd.be h2, Rd.pp h2⟩
theorem r_X12_isAt (hq : Pp e p I) {x y : Int32} : Sp S m_X12_isAt 12 0 0 [.ref 420, .int x, .int y] (hp I L w1 w2 t) (fun v h' => h' = hp I L w1 w2 t ∧ ∃ b, v = some (.int (bI b)) ∧ (b = true → p < e)) nX := by
  obtain ⟨h1, h2, h3, h4⟩ := hq
  refine Sp_of ok_X12_isAt rfl rfl ?_
  show AW S m_X12_isAt 12 _ _ 0 0 0 [some (.ref 420), some (.int x), some (.int y)] [] (hp I L w1 w2 t)
  have no : AW S m_X12_isAt 12 (fun v h' => h' = hp I L w1 w2 t ∧ ∃ b, v = some (.int (bI b)) ∧ (b = true → p < e)) nX 0 0 41 [some (.ref 420), some (.int x), some (.int y)] [] (hp I L w1 w2 t) := by
    refine a_s rfl rfl ?_
    exact a_zret rfl rfl rfl ⟨rfl, false, rfl, fun z => by cases z⟩
  refine a_l0 rfl rfl rfl ?_
  refine a_geti rfl gfX12_81_12 rfl ?_
  refine a_top (y := nI p) (h1) ?_
  refine a_l0 rfl rfl rfl ?_
  refine a_geti rfl gfX12_84_12 rfl ?_
  refine a_top (y := nI e) (h2) ?_
  refine a_ic_ge rfl (fun _ => no) (fun c => ?_)
  have hlt : p < e := nI_lt_of c (by omega) (by omega)
  refine a_l0 rfl rfl rfl ?_
  refine a_getq rfl gfX12_29_12 rfl (rfl) ?_
  refine a_l0 rfl rfl rfl ?_
  refine a_geti rfl gfX12_81_12 rfl ?_
  refine a_top (y := nI p) (h1) ?_
  refine a_bald rfl (n := 400) rfl (inI_nI (by omega) (by omega)) ?_
  refine a_l1 rfl rfl rfl ?_
  refine a_ic_lt rfl (fun _ => no) (fun _ => ?_)
  refine a_l0 rfl rfl rfl ?_
  refine a_getq rfl gfX12_29_12 rfl (rfl) ?_
  refine a_l0 rfl rfl rfl ?_
  refine a_geti rfl gfX12_81_12 rfl ?_
  refine a_top (y := nI p) (h1) ?_
  refine a_bald rfl (n := 400) rfl (inI_nI (by omega) (by omega)) ?_
  refine a_l2 rfl rfl rfl ?_
  refine a_ic_gt rfl (fun _ => no) (fun _ => ?_)
  refine a_s rfl rfl ?_
  refine a_goto rfl ?_
  exact a_zret rfl rfl rfl ⟨rfl, true, rfl, fun _ => hlt⟩
theorem r_X12_blanks (hq : Pp e p I) : Sp S m_X12_blanks 13 0 0 [.ref 420] (hp I L w1 w2 t) (fun v h' => v = none ∧ ∃ J p', h' = hp J L w1 w2 t ∧ Rd e p p' p' I J) nX := by
  refine Sp_of ok_X12_blanks rfl rfl ?_
  show AW S m_X12_blanks 13 _ _ 0 0 0 [some (.ref 420)] [] (hp I L w1 w2 t)
  refine a_inv (n := e - p) (fun m ls h => ls = [some (.ref 420)] ∧ ∃ J p', h = hp J L w1 w2 t ∧ Fm sR I J ∧ p ≤ p' ∧ Pp e p' J ∧ m = e - p') ⟨rfl, I, p, rfl, Fm.rf, Nat.le_refl _, hq, rfl⟩ ?_
  rintro m _ _ ⟨rfl, J, p', rfl, f, hpp, hq', hm⟩ ih
  refine a_l0 rfl rfl rfl ?_
  refine a_s rfl rfl ?_
  refine a_s rfl rfl ?_
  refine a_gV rfl lX12_87 mo_X12_isAt (r_X12_isAt hq') rfl rfl rfl ⟨12, _, rfl, rfl, rfl⟩ rfl (fun v' h' hv => ?_)
  obtain ⟨rfl, b, rfl, hb⟩ := hv
  refine a_if_eq rfl (fun _ => ?_) (fun c => ?_)
  · refine a_l0 rfl rfl rfl ?_
    refine a_l0 rfl rfl rfl ?_
    refine a_geti rfl gfX12_81_12 rfl ?_
    refine a_top (y := nI p') (Pp.pu hq') ?_
    refine a_puti rfl pfX12_91_12 rfl ?_
    exact a_vret rfl rfl ⟨rfl, _, p', rfl, Fm.up f rfl, hpp, Nat.le_refl _, up2_at, Pp.bg hq'⟩
  · have hb' := hb (bI_t c)
    refine a_l0 rfl rfl rfl ?_
    refine a_s rfl rfl ?_
    refine a_geti rfl gfX12_81_12 rfl ?_
    refine a_top (y := nI p') (Pp.pu hq') ?_
    refine a_s rfl rfl ?_
    refine a_s rfl rfl ?_
    refine a_top (y := nI (p' + 1)) ((nI_succ _).symm) ?_
    refine a_puti rfl pfX12_81_12 rfl ?_
    refine a_goto rfl ?_
    exact ih (e - (p' + 1)) _ _ (by omega) ⟨rfl, _, p' + 1, rfl, Fm.up f rfl, by omega, Pp.to hq' hb', rfl⟩
theorem r_X12_letters (hq : Pp e p I) : Sp S m_X12_letters 14 0 0 [.ref 420] (hp I L w1 w2 t) (fun v h' => v = none ∧ ∃ J b p', h' = hp J L w1 w2 t ∧ Rd e p b p' I J) nX := by
  refine Sp_of ok_X12_letters rfl rfl ?_
  show AW S m_X12_letters 14 _ _ 0 0 0 [some (.ref 420)] [] (hp I L w1 w2 t)
  refine a_l0 rfl rfl rfl ?_
  refine a_gV rfl lX12_94 mo_X12_blanks (r_X12_blanks hq) rfl rfl rfl ⟨12, _, rfl, rfl, rfl⟩ rfl (fun v' h' hv => ?_)
  obtain ⟨rfl, J1, b, rfl, h1⟩ := hv
  refine a_inv (n := e - b) (fun m ls h => ls = [some (.ref 420)] ∧ ∃ J p', h = hp J L w1 w2 t ∧ Rd e p b p' I J ∧ m = e - p') ⟨rfl, J1, b, rfl, h1, rfl⟩ ?_
  rintro m _ _ ⟨rfl, J, p', rfl, h, hm⟩ ih
  refine a_l0 rfl rfl rfl ?_
  refine a_s rfl rfl ?_
  refine a_s rfl rfl ?_
  refine a_gV rfl lX12_87 mo_X12_isAt (r_X12_isAt (Rd.pp h)) rfl rfl rfl ⟨12, _, rfl, rfl, rfl⟩ rfl (fun v' h' hv => ?_)
  obtain ⟨rfl, z, rfl, hb⟩ := hv
  refine a_if_eq rfl (fun _ => ?_) (fun c => ?_)
  · exact a_vret rfl rfl ⟨rfl, _, b, p', rfl, h⟩
  · have hb' := hb (bI_t c)
    refine a_l0 rfl rfl rfl ?_
    refine a_s rfl rfl ?_
    refine a_geti rfl gfX12_81_12 rfl ?_
    refine a_top (y := nI p') (Pp.pu (Rd.pp h)) ?_
    refine a_s rfl rfl ?_
    refine a_s rfl rfl ?_
    refine a_top (y := nI (p' + 1)) ((nI_succ _).symm) ?_
    refine a_puti rfl pfX12_81_12 rfl ?_
    refine a_goto rfl ?_
    exact ih (e - (p' + 1)) _ _ (by omega) ⟨rfl, _, p' + 1, rfl, Rd.up h hb', rfl⟩
theorem wLen_pos : ∀ i, i < 27 → 1 ≤ wLen i := by decide +kernel
theorem r_X12_isWord {b k : Nat} (hw : WdS S) (hk : k < 27) (h12 : I 420 12 = nI b) (hbp : b ≤ p) (hq : Pp e p I) : Sp S m_X12_isWord 16 0 0 [.ref 420, .ref (130 + k)] (hp I L w1 w2 t) (fun v h' => h' = hp I L w1 w2 t ∧ ∃ z, v = some (.int (bI z)) ∧ (z = true → b < p)) nX := by
  obtain ⟨h1, h2, h3, h4⟩ := hq
  have hl1 := wLen_pos k hk
  have hl2 := wLen_lt k hk
  refine Sp_of ok_X12_isWord rfl rfl ?_
  show AW S m_X12_isWord 16 _ _ 0 0 0 [some (.ref 420), some (.ref (130 + k)), none, none] [] (hp I L w1 w2 t)
  have key : ∀ z : Bool, (z = true → p - b = wLen k) → AW S m_X12_isWord 16 (fun v h' => h' = hp I L w1 w2 t ∧ ∃ z, v = some (.int (bI z)) ∧ (z = true → b < p)) nX 0 0 21 [some (.ref 420), some (.ref (130 + k)), none, none] [.int (bI z)] (hp I L w1 w2 t) := by
    intro z hz
    refine a_s2 rfl rfl rfl rfl rfl rfl ?_
    refine a_s rfl rfl ?_
    refine a_s3 rfl rfl rfl rfl rfl rfl ?_
    refine a_cnt (j0 := 0) (fun j ls h => ∃ z, ls = [some (.ref 420), some (.ref (130 + k)), some (.int (bI z)), some (.int (nI j))] ∧ h = hp I L w1 w2 t ∧ (z = true → p - b = wLen k)) (by decide) ⟨z, rfl, rfl, hz⟩ ⟨rfl, rfl, rfl, rfl, trivial⟩ ?_
    rintro j _ _ hj ⟨z, rfl, rfl, hz⟩ ih
    have out : AW S m_X12_isWord 16 (fun v h' => h' = hp I L w1 w2 t ∧ ∃ z, v = some (.int (bI z)) ∧ (z = true → b < p)) nX 0 0 67 [some (.ref 420), some (.ref (130 + k)), some (.int (bI z)), some (.int (nI j))] [] (hp I L w1 w2 t) := by
      refine a_l2 rfl rfl rfl ?_
      exact a_zret rfl rfl (bI_nar _) ⟨rfl, z, rfl, fun hz1 => by have := hz hz1; omega⟩
    refine a_l2 rfl rfl rfl ?_
    refine a_if_eq rfl (fun _ => out) (fun c => ?_)
    have hpb := hz (bI_t c)
    refine a_l3 rfl rfl rfl ?_
    refine a_l1 rfl rfl rfl ?_
    refine a_eK1 rfl lX12_97 mo_J0_length_8abf5 (q_strlen hw hk) rfl rfl rfl (hw.so hk) rfl ?_
    refine a_ic_ge rfl (fun _ => out) (fun c2 => ?_)
    have hjl : j < wLen k := nI_lt_of c2 hj hl2
    refine a_l0 rfl rfl rfl ?_
    refine a_getq rfl gfX12_29_12 rfl (rfl) ?_
    refine a_l0 rfl rfl rfl ?_
    refine a_geti rfl gfX12_91_12 rfl ?_
    refine a_top (y := nI b) (h12) ?_
    refine a_l3 rfl rfl rfl ?_
    refine a_s rfl rfl ?_
    refine a_top (y := nI (b + j)) (nI_addl _ _) ?_
    refine a_bald rfl (n := 400) rfl (inI_nI (by omega) (by omega)) ?_
    refine a_l1 rfl rfl rfl ?_
    refine a_l3 rfl rfl rfl ?_
    refine a_eK1 rfl lX12_102 mo_J0_charAt_5068e (q_charAt hw hk hjl) rfl rfl rfl (hw.so hk) rfl ?_
    have back : ∀ z' : Bool, AW S m_X12_isWord 16 (fun v h' => h' = hp I L w1 w2 t ∧ ∃ z, v = some (.int (bI z)) ∧ (z = true → b < p)) nX 0 0 60 [some (.ref 420), some (.ref (130 + k)), some (.int (bI z)), some (.int (nI j))] [.int (bI z')] (hp I L w1 w2 t) := by
      intro z'
      refine a_s2 rfl rfl rfl rfl rfl rfl ?_
      refine a_i3 rfl rfl rfl ?_
      refine a_goto rfl ?_
      exact ih _ _ _ _ c2 ⟨z', rfl, rfl, fun _ => hpb⟩ ⟨rfl, rfl, rfl, nS _, trivial⟩
    refine a_ic_ne rfl (fun _ => ?_) (fun _ => ?_)
    · refine a_s rfl rfl ?_
      exact back false
    · refine a_s rfl rfl ?_
      refine a_goto rfl ?_
      exact back true
  refine a_l0 rfl rfl rfl ?_
  refine a_geti rfl gfX12_81_12 rfl ?_
  refine a_top (y := nI p) (h1) ?_
  refine a_l0 rfl rfl rfl ?_
  refine a_geti rfl gfX12_91_12 rfl ?_
  refine a_top (y := nI b) (h12) ?_
  refine a_s rfl rfl ?_
  refine a_top (y := nI (p - b)) (nI_sub hbp) ?_
  refine a_l1 rfl rfl rfl ?_
  refine a_eK1 rfl lX12_97 mo_J0_length_8abf5 (q_strlen hw hk) rfl rfl rfl (hw.so hk) rfl ?_
  refine a_ic_ne rfl (fun _ => ?_) (fun c => ?_)
  · refine a_s rfl rfl ?_
    exact key false (fun z => by cases z)
  · refine a_s rfl rfl ?_
    refine a_goto rfl ?_
    exact key true (fun _ => nI_inj (by omega) hl2 c)
theorem r_X12_passes {k : Nat} (hw : WdS S) (hk : k < 27) (hq : Pp e p I) : Sp S m_X12_passes 17 0 0 [.ref 420, .ref (130 + k)] (hp I L w1 w2 t) (fun v h' => ∃ z b p' J, v = some (.int (bI z)) ∧ h' = hp J L w1 w2 t ∧ Rd e p b p' I J ∧ (z = true → b < p')) nX := by
  refine Sp_of ok_X12_passes rfl rfl ?_
  show AW S m_X12_passes 17 _ _ 0 0 0 [some (.ref 420), some (.ref (130 + k))] [] (hp I L w1 w2 t)
  refine a_l0 rfl rfl rfl ?_
  refine a_gV rfl lX12_106 mo_X12_letters (r_X12_letters hq) rfl rfl rfl ⟨12, _, rfl, rfl, rfl⟩ rfl (fun v' h' hv => ?_)
  obtain ⟨rfl, J, b, p', rfl, h⟩ := hv
  refine a_l0 rfl rfl rfl ?_
  refine a_l1 rfl rfl rfl ?_
  refine a_gV rfl lX12_109 mo_X12_isWord (r_X12_isWord hw hk (Rd.be h) (Rd.bp h) (Rd.pp h)) rfl rfl rfl ⟨12, _, rfl, rfl, rfl⟩ rfl (fun v' h' hv => ?_)
  obtain ⟨rfl, z, rfl, hz⟩ := hv
  refine a_if_eq rfl (fun _ => ?_) (fun c => ?_)
  · refine a_l0 rfl rfl rfl ?_
    refine a_l0 rfl rfl rfl ?_
    refine a_geti rfl gfX12_91_12 rfl ?_
    refine a_top (y := nI b) (Rd.be h) ?_
    refine a_puti rfl pfX12_81_12 rfl ?_
    refine a_s rfl rfl ?_
    exact a_zret rfl rfl rfl ⟨false, b, b, _, rfl, rfl, Rd.rs h, fun z => by cases z⟩
  · refine a_s rfl rfl ?_
    exact a_zret rfl rfl rfl ⟨true, b, p', J, rfl, rfl, h, fun _ => hz (bI_t c)⟩
theorem r_X12_sign (hq : Pp e p I) {x : Int32} : Sp S m_X12_sign 14 0 0 [.ref 420, .int x] (hp I L w1 w2 t) (fun v h' => ∃ z b p' J, v = some (.int (bI z)) ∧ h' = hp J L w1 w2 t ∧ Rd e p b p' I J ∧ (z = true → b < p')) nX := by
  refine Sp_of ok_X12_sign rfl rfl ?_
  show AW S m_X12_sign 14 _ _ 0 0 0 [some (.ref 420), some (.int x)] [] (hp I L w1 w2 t)
  refine a_l0 rfl rfl rfl ?_
  refine a_gV rfl lX12_94 mo_X12_blanks (r_X12_blanks hq) rfl rfl rfl ⟨12, _, rfl, rfl, rfl⟩ rfl (fun v' h' hv => ?_)
  obtain ⟨rfl, J, b, rfl, h⟩ := hv
  refine a_l0 rfl rfl rfl ?_
  refine a_l1 rfl rfl rfl ?_
  refine a_l1 rfl rfl rfl ?_
  refine a_gV rfl lX12_87 mo_X12_isAt (r_X12_isAt (Rd.pp h)) rfl rfl rfl ⟨12, _, rfl, rfl, rfl⟩ rfl (fun v' h' hv => ?_)
  obtain ⟨rfl, z, rfl, hz⟩ := hv
  refine a_if_ne rfl (fun c => ?_) (fun _ => ?_)
  · refine a_l0 rfl rfl rfl ?_
    refine a_s rfl rfl ?_
    refine a_geti rfl gfX12_81_12 rfl ?_
    refine a_top (y := nI b) (Pp.pu (Rd.pp h)) ?_
    refine a_s rfl rfl ?_
    refine a_s rfl rfl ?_
    refine a_top (y := nI (b + 1)) ((nI_succ _).symm) ?_
    refine a_puti rfl pfX12_81_12 rfl ?_
    refine a_s rfl rfl ?_
    exact a_zret rfl rfl rfl ⟨true, b, b + 1, _, rfl, rfl, Rd.up h (hz (bI_t c)), fun _ => by omega⟩
  · refine a_s rfl rfl ?_
    exact a_zret rfl rfl rfl ⟨false, b, b, J, rfl, rfl, h, fun z => by cases z⟩
theorem r_X12_number (hq : Pp e p I) {x y : Int32} : Sp S m_X12_number 14 0 0 [.ref 420, .int x, .int y] (hp I L w1 w2 t) (fun v h' => ∃ n b p' J, v = some (.int n) ∧ h' = hp J L w1 w2 t ∧ Rd e p b p' I J ∧ (n = -1 ∨ (b < p' ∧ x ≤ n ∧ n ≤ y))) nX := by
  refine Sp_of ok_X12_number rfl rfl ?_
  show AW S m_X12_number 14 _ _ 0 0 0 [some (.ref 420), some (.int x), some (.int y), none] [] (hp I L w1 w2 t)
  refine a_l0 rfl rfl rfl ?_
  refine a_gV rfl lX12_94 mo_X12_blanks (r_X12_blanks hq) rfl rfl rfl ⟨12, _, rfl, rfl, rfl⟩ rfl (fun v' h' hv => ?_)
  obtain ⟨rfl, J1, b, rfl, h1⟩ := hv
  refine a_s rfl rfl ?_
  refine a_s3 rfl rfl rfl rfl rfl rfl ?_
  refine a_inv (n := e - b) (fun m ls h => ∃ a J p', ls = [some (.ref 420), some (.int x), some (.int y), some (.int a)] ∧ h = hp J L w1 w2 t ∧ Rd e p b p' I J ∧ m = e - p') ⟨_, J1, b, rfl, rfl, h1, rfl⟩ ?_
  rintro m _ _ ⟨a, J, p', rfl, rfl, h, hm⟩ ih
  have hbp := Rd.bp h
  have hpe := Pp.le (Rd.pp h)
  have he4 := Pp.e4 (Rd.pp h)
  refine a_l0 rfl rfl rfl ?_
  refine a_s rfl rfl ?_
  refine a_s rfl rfl ?_
  refine a_gV rfl lX12_87 mo_X12_isAt (r_X12_isAt (Rd.pp h)) rfl rfl rfl ⟨12, _, rfl, rfl, rfl⟩ rfl (fun v' h' hv => ?_)
  obtain ⟨rfl, z, rfl, hz⟩ := hv
  refine a_if_eq rfl (fun _ => ?_) (fun c => ?_)
  · have no : AW S m_X12_number 14 (fun v h' => ∃ n b p' J, v = some (.int n) ∧ h' = hp J L w1 w2 t ∧ Rd e p b p' I J ∧ (n = -1 ∨ (b < p' ∧ x ≤ n ∧ n ≤ y))) nX 0 0 99 [some (.ref 420), some (.int x), some (.int y), some (.int a)] [] (hp J L w1 w2 t) := by
      refine a_s rfl rfl ?_
      refine a_goto rfl ?_
      exact a_iret rfl rfl ⟨-1, b, p', J, rfl, rfl, h, Or.inl rfl⟩
    refine a_l0 rfl rfl rfl ?_
    refine a_geti rfl gfX12_81_12 rfl ?_
    refine a_top (y := nI p') (Pp.pu (Rd.pp h)) ?_
    refine a_l0 rfl rfl rfl ?_
    refine a_geti rfl gfX12_91_12 rfl ?_
    refine a_top (y := nI b) (Rd.be h) ?_
    refine a_ic_eq rfl (fun _ => no) (fun cne => ?_)
    have hlt : b < p' := by
      rcases Nat.lt_or_ge b p' with g | g
      · exact g
      · exact absurd (congrArg nI (show p' = b by omega)) cne
    refine a_l0 rfl rfl rfl ?_
    refine a_geti rfl gfX12_81_12 rfl ?_
    refine a_top (y := nI p') (Pp.pu (Rd.pp h)) ?_
    refine a_l0 rfl rfl rfl ?_
    refine a_geti rfl gfX12_91_12 rfl ?_
    refine a_top (y := nI b) (Rd.be h) ?_
    refine a_s rfl rfl ?_
    refine a_s rfl rfl ?_
    refine a_ic_gt rfl (fun _ => no) (fun _ => ?_)
    refine a_l3 rfl rfl rfl ?_
    refine a_l1 rfl rfl rfl ?_
    refine a_ic_lt rfl (fun _ => no) (fun c1 => ?_)
    refine a_l3 rfl rfl rfl ?_
    refine a_l2 rfl rfl rfl ?_
    refine a_ic_le rfl (fun c2 => ?_) (fun _ => no)
    refine a_l3 rfl rfl rfl ?_
    exact a_iret rfl rfl ⟨a, b, p', J, rfl, rfl, h, Or.inr ⟨hlt, Int32.not_lt.mp c1, c2⟩⟩
  · have hb' := hz (bI_t c)
    have back : ∀ a' : Int32, AW S m_X12_number 14 (fun v h' => ∃ n b p' J, v = some (.int n) ∧ h' = hp J L w1 w2 t ∧ Rd e p b p' I J ∧ (n = -1 ∨ (b < p' ∧ x ≤ n ∧ n ≤ y))) nX 0 0 51 [some (.ref 420), some (.int x), some (.int y), some (.int a)] [.int a'] (hp J L w1 w2 t) := by
      intro a'
      refine a_s3 rfl rfl rfl rfl rfl rfl ?_
      refine a_l0 rfl rfl rfl ?_
      refine a_s rfl rfl ?_
      refine a_geti rfl gfX12_81_12 rfl ?_
      refine a_top (y := nI p') (Pp.pu (Rd.pp h)) ?_
      refine a_s rfl rfl ?_
      refine a_s rfl rfl ?_
      refine a_top (y := nI (p' + 1)) ((nI_succ _).symm) ?_
      refine a_puti rfl pfX12_81_12 rfl ?_
      refine a_goto rfl ?_
      exact ih (e - (p' + 1)) _ _ (by omega) ⟨a', _, p' + 1, rfl, rfl, Rd.up h hb', rfl⟩
    refine a_l0 rfl rfl rfl ?_
    refine a_geti rfl gfX12_81_12 rfl ?_
    refine a_top (y := nI p') (Pp.pu (Rd.pp h)) ?_
    refine a_l0 rfl rfl rfl ?_
    refine a_geti rfl gfX12_91_12 rfl ?_
    refine a_top (y := nI b) (Rd.be h) ?_
    refine a_s rfl rfl ?_
    refine a_s rfl rfl ?_
    refine a_ic_ge rfl (fun _ => ?_) (fun _ => ?_)
    · refine a_l3 rfl rfl rfl ?_
      exact back a
    · refine a_s rfl rfl ?_
      refine a_l3 rfl rfl rfl ?_
      refine a_s rfl rfl ?_
      refine a_l0 rfl rfl rfl ?_
      refine a_getq rfl gfX12_29_12 rfl (rfl) ?_
      refine a_l0 rfl rfl rfl ?_
      refine a_geti rfl gfX12_81_12 rfl ?_
      refine a_top (y := nI p') (Pp.pu (Rd.pp h)) ?_
      refine a_bald rfl (n := 400) rfl (inI_nI (by omega) (by omega)) ?_
      refine a_s rfl rfl ?_
      refine a_s rfl rfl ?_
      refine a_s rfl rfl ?_
      refine a_goto rfl ?_
      exact back _
theorem r_X12_numberBehind {k : Nat} (hw : WdS S) (hk : k < 27) (hq : Pp e p I) {x y : Int32} : Sp S m_X12_numberBehind 17 0 0 [.ref 420, .ref (130 + k), .int x, .int y] (hp I L w1 w2 t) (fun v h' => ∃ n b p' J, v = some (.int n) ∧ h' = hp J L w1 w2 t ∧ Rd e p b p' I J ∧ (n = -1 ∨ (b < p' ∧ x ≤ n ∧ n ≤ y))) nX := by
  refine Sp_of ok_X12_numberBehind rfl rfl ?_
  show AW S m_X12_numberBehind 17 _ _ 0 0 0 [some (.ref 420), some (.ref (130 + k)), some (.int x), some (.int y)] [] (hp I L w1 w2 t)
  refine a_l0 rfl rfl rfl ?_
  refine a_gV rfl lX12_106 mo_X12_letters (r_X12_letters hq) rfl rfl rfl ⟨12, _, rfl, rfl, rfl⟩ rfl (fun v' h' hv => ?_)
  obtain ⟨rfl, J, b, p', rfl, h⟩ := hv
  refine a_l0 rfl rfl rfl ?_
  refine a_l1 rfl rfl rfl ?_
  refine a_gV rfl lX12_109 mo_X12_isWord (r_X12_isWord hw hk (Rd.be h) (Rd.bp h) (Rd.pp h)) rfl rfl rfl ⟨12, _, rfl, rfl, rfl⟩ rfl (fun v' h' hv => ?_)
  obtain ⟨rfl, z, rfl, hz⟩ := hv
  refine a_if_eq rfl (fun _ => ?_) (fun c => ?_)
  · refine a_s rfl rfl ?_
    exact a_iret rfl rfl ⟨-1, b, p', J, rfl, rfl, h, Or.inl rfl⟩
  · refine a_l0 rfl rfl rfl ?_
    refine a_l2 rfl rfl rfl ?_
    refine a_l3 rfl rfl rfl ?_
    refine a_gV rfl lX12_113 mo_X12_number (r_X12_number (Rd.pp h)) rfl rfl rfl ⟨12, _, rfl, rfl, rfl⟩ rfl (fun v' h' hv => ?_)
    obtain ⟨n, b2, p2, J2, rfl, rfl, h2, hn⟩ := hv
    refine a_goto rfl ?_
    exact a_iret rfl rfl ⟨n, b2, p2, J2, rfl, rfl, Rd.tr h h2, hn⟩
end T67
