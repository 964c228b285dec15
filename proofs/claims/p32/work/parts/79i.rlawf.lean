/-! ===== the reference: a law's line, all lines, a law, as functions ===== -/
section T79i
variable {S : aS} {I : Nat → Nat → Int32} {L : Nat → Nat → Int64} {w1 w2 t : Nat} {e p b n0 nd np : Nat} {T : Nat → Int32} {o : List Int32} {ls : List LnT}
set_option maxRecDepth 100000
/-- lines of the draft, the latest first -/
def LnW (W : Nat → Int32) : List LnT → Prop
  | [] => True
  | x :: r => (W (1185 + 4 * r.length) = x.1 ∧ W (1185 + 4 * r.length + 1) = x.2.1 ∧ W (1185 + 4 * r.length + 2) = nI x.2.2.1 ∧ W (1185 + 4 * r.length + 3) = nI x.2.2.2) ∧ LnW W r
theorem LnW.eq {W W' : Nat → Int32} : ∀ {r : List LnT}, LnW W r → (∀ k, 1185 ≤ k → k < 1185 + 4 * r.length → W' k = W k) → LnW W' r := by
  intro r
  induction r with
  | nil => exact fun _ _ => trivial
  | cons x r ih =>
    intro h f
    have f : ∀ k, 1185 ≤ k → k < 1185 + 4 * (r.length + 1) → W' k = W k := f
    obtain ⟨⟨h1, h2, h3, h4⟩, h5⟩ := h
    exact ⟨⟨(f _ (by omega) (by omega)).trans h1, (f _ (by omega) (by omega)).trans h2, (f _ (by omega) (by omega)).trans h3, (f _ (by omega) (by omega)).trans h4⟩, ih h5 fun k g1 g2 => f k g1 (by omega)⟩
theorem LnW.at {W : Nat → Int32} : ∀ {r : List LnT}, LnW W r → ∀ i, i < r.length → W (1185 + 4 * i) = (lnAt r i).1 ∧ W (1185 + 4 * i + 1) = (lnAt r i).2.1 ∧ W (1185 + 4 * i + 2) = nI (lnAt r i).2.2.1 ∧ W (1185 + 4 * i + 3) = nI (lnAt r i).2.2.2 := by
  intro r
  induction r with
  | nil => exact fun _ i hi => absurd hi (Nat.not_lt_zero _)
  | cons x r ih =>
    intro h i hi
    have hi : i < r.length + 1 := hi
    by_cases c : i = r.length
    · rw [show lnAt (x :: r) i = x from if_pos c, c]
      exact h.1
    · rw [show lnAt (x :: r) i = lnAt r i from if_neg c]
      exact ih h.2 i (by omega)
theorem RowS.at {W : Nat → Int32} : ∀ {r : List Int32}, RowS W r → ∀ i, i < r.length → W (1233 + 2 * i) = stF (cdL r i) ∧ W (1233 + 2 * i + 1) = snF (cdL r i) := by
  intro r
  induction r with
  | nil => exact fun _ i hi => absurd hi (Nat.not_lt_zero _)
  | cons x r ih =>
    intro h i hi
    have hi : i < r.length + 1 := hi
    by_cases c : i = r.length
    · rw [show cdL (x :: r) i = x from if_pos c, c]
      exact h.1
    · rw [show cdL (x :: r) i = cdL r i from if_neg c]
      exact ih h.2 i (by omega)
theorem LD_of {W : Nat → Int32} (h1 : RowS W o) (h2 : LnW W ls) (h3 : LsOk o ls) : LD ls.length o.length W := by
  obtain ⟨g1, g2⟩ := h3
  have hc : ∀ i, i < o.length → ∃ k m, k ≤ 15 ∧ m < 1000 ∧ W (1233 + 2 * i) = nI k ∧ W (1233 + 2 * i + 1) = nI m ∧ cdN o i = trN k m := fun i hi => by
    obtain ⟨k, m, a1, a2, a3, a4, a5, -⟩ := okC_st (cdL_ok g1 i hi)
    obtain ⟨r1, r2⟩ := RowS.at h1 i hi
    exact ⟨k, m, a1, a2, r1.trans a3, r2.trans a4, a5⟩
  refine ⟨fun i hi => ?_, fun i hi => ?_⟩
  · obtain ⟨k, m, a1, a2, a3, a4, -⟩ := hc i hi
    exact ⟨k, m, a1, a2, a3, a4⟩
  · obtain ⟨-, -, l3, l4⟩ := LnW.at h2 i hi
    obtain ⟨b1, b2, b3⟩ := g2 i hi
    refine ⟨_, _, l3, l4, b1, b2, LineOk.congr b3 fun j hj => ?_⟩
    obtain ⟨k, m, a1, a2, a3, a4, a5⟩ := hc ((lnAt ls i).2.2.1 + j) (by omega)
    rw [a5]
    unfold cdD
    rw [a3, a4, nI_clamp (by omega), nI_clamp (by omega)]
/-- a draft's state between two lines: so many lines, so many codes -/
def Dl (T : Nat → Int32) (e b : Nat) (o : List Int32) (ls : List LnT) (J : Nat → Nat → Int32) (p : Nat) : Prop := Pp e p J ∧ rn T e 4 p = b ∧ J 420 16 = nI o.length ∧ RowS (J 421) o ∧ LnW (J 421) ls ∧ o.length ≤ b
theorem h_readLawLine (hw : WdS S) (hbt : BtT T) (hT : I 426 = T) (hnl : ls.length < 12) (h12 : I 420 12 = nI b) (hq : Pp e p I) (hp1 : p = rn T e 1 b) (hsk : rn T e 4 b = b) (hst : I 420 16 = nI o.length) (hrs : RowS (I 421) o) (hrl : LnW (I 421) ls) (hB : o.length ≤ b) (hbe : b ≤ e) : Sp S m_X12_readLawLine 41 0 0 [.ref 420, .int (nI ls.length)] (hp I L w1 w2 t) (fun v h' => v = some (.int (bI (lnP T e b o).1)) ∧ ∃ J p', h' = hp J L w1 w2 t ∧ Fm (sZ ls.length o.length) I J ∧ ((lnP T e b o).1 = false → J 420 12 = nI (lnP T e b o).2.1) ∧ ((lnP T e b o).1 = true → Dl T e (lnP T e b o).2.1 (lnP T e b o).2.2 (lnV T e b o (lnP T e b o).2.2 :: ls) J p')) nX := by
  have he4 := Pp.e4 hq
  have gd := lnP_gd (T := T) (o := o) hbe
  have hi : ∀ k, k < 27 → isW T b (p - b) k = isWd T e b k := fun k hk => by
    rw [hp1]
    exact isW_wd hk
  have hbp : b ≤ p := by
    rw [hp1]
    exact rn_ge
  refine Sp_of ok_X12_readLawLine rfl rfl ?_
  show AW S m_X12_readLawLine 41 _ _ 0 0 0 [some (.ref 420), some (.int (nI ls.length)), none] [] (hp I L w1 w2 t)
  refine a_s rfl rfl ?_
  refine a_s rfl rfl ?_
  refine a_l1 rfl rfl rfl ?_
  refine a_s rfl rfl ?_
  refine a_top (y := nI (4 * ls.length)) (nI_mul 4 ls.length) ?_
  refine a_s rfl rfl ?_
  refine a_top (y := nI (1185 + 4 * ls.length)) (nI_addl 1185 (4 * ls.length)) ?_
  refine a_s2 rfl rfl rfl rfl rfl rfl ?_
  refine a_l0 rfl rfl rfl ?_
  refine a_getq rfl gfX12_13_12 rfl (rfl) ?_
  refine a_l2 rfl rfl rfl ?_
  have key : AW S m_X12_readLawLine 41 (fun v h' => v = some (.int (bI (lnP T e b o).1)) ∧ ∃ J p', h' = hp J L w1 w2 t ∧ Fm (sZ ls.length o.length) I J ∧ ((lnP T e b o).1 = false → J 420 12 = nI (lnP T e b o).2.1) ∧ ((lnP T e b o).1 = true → Dl T e (lnP T e b o).2.1 (lnP T e b o).2.2 (lnV T e b o (lnP T e b o).2.2 :: ls) J p')) nX 0 0 53 [some (.ref 420), some (.int (nI ls.length)), some (.int (nI (1185 + 4 * ls.length)))] [.int (kndP T e b), .int (nI (1185 + 4 * ls.length)), .ref 421] (hp I L w1 w2 t) := by
    refine a_iastv (k := 1185 + 4 * ls.length) rfl (n := 2033) rfl (inI_nI (by omega) (by omega)) (nI_clamp (by omega)) ?_
    have f1 : Fm (sZ ls.length o.length) I (up2 I 421 (1185 + 4 * ls.length) (kndP T e b)) := Fm.up Fm.rf (sZ_in (by omega) (by omega))
    refine a_l0 rfl rfl rfl ?_
    refine a_getq rfl gfX12_13_12 rfl (rfl) ?_
    refine a_l2 rfl rfl rfl ?_
    refine a_ialdv (v := kndP T e b) rfl (n := 2033) rfl (inI_nI (by omega) (by omega)) (by rw [nI_clamp (by omega)]; exact up2_at) ?_
    by_cases c1 : kndP T e b = -1
    · rw [show lnP T e b o = (false, b, []) from if_pos c1, c1]
      refine a_if_ge rfl (fun c => absurd c (by decide)) (fun _ => ?_)
      refine a_s rfl rfl ?_
      rw [c1] at f1
      exact a_zret rfl rfl rfl ⟨rfl, _, 0, rfl, f1, fun _ => (congrFun (up2_row (by decide)) 12).trans h12, fun z => by cases z⟩
    have k1 : kd T e b = 1 ∧ ¬ kndP T e b < 0 := by
      unfold kndP at c1 ⊢
      by_cases d1 : isWd T e b 15 = true
      · rw [if_pos d1]
        exact ⟨(of_decide_eq_true d1).1, by decide⟩
      · rw [if_neg d1] at c1 ⊢
        by_cases d2 : isWd T e b 16 = true
        · rw [if_pos d2]
          exact ⟨(of_decide_eq_true d2).1, by decide⟩
        · rw [if_neg d2] at c1 ⊢
          by_cases d3 : isWd T e b 17 = true
          · rw [if_pos d3]
            exact ⟨(of_decide_eq_true d3).1, by decide⟩
          · rw [if_neg d3] at c1
            exact absurd rfl c1
    have n1 := nx_lt (T := T) (knd_lt c1)
    have n1e := nx_le (T := T) hbe
    have hpn : rn T e 4 p = nx T e b := by
      rw [hp1, ← en_1 k1.1]
      rfl
    refine a_if_ge rfl (fun _ => ?_) (fun c => absurd (Int32.not_lt.mp k1.2) c)
    refine a_l0 rfl rfl rfl ?_
    refine a_getq rfl gfX12_13_12 rfl (rfl) ?_
    refine a_l2 rfl rfl rfl ?_
    refine a_s rfl rfl ?_
    refine a_s rfl rfl ?_
    refine a_top (y := nI (1185 + 4 * ls.length + 1)) ((nI_succ _).symm) ?_
    refine a_l0 rfl rfl rfl ?_
    refine a_s rfl rfl ?_
    refine a_s rfl rfl ?_
    refine a_gV rfl lX12_113 mo_X12_number (h_number (b := nx T e b) (x := 0) (y := 60) (Pp.wd hq) (by rw [up2_row (by decide), hT]; exact hpn) (by decide)) rfl rfl rfl ⟨12, _, rfl, rfl, rfl⟩ rfl (fun v' h' hv => ?_)
    obtain ⟨rfl, J2, rfl, h2⟩ := hv
    rw [show up2 I 421 (1185 + 4 * ls.length) (kndP T e b) 426 = T from (up2_row (by decide)).trans hT] at h2 ⊢
    refine a_iastv (k := 1185 + 4 * ls.length + 1) rfl (n := 2033) rfl (inI_nI (by omega) (by omega)) (nI_clamp (by omega)) ?_
    have f3 : Fm (sZ ls.length o.length) I (up2 J2 421 (1185 + 4 * ls.length + 1) (nm T e (nx T e b) 0 60)) := Fm.up (Fm.tr f1 (Fm.mo (Rd.fm h2) sR_sZ)) (sZ_in (by omega) (by omega))
    refine a_l0 rfl rfl rfl ?_
    refine a_getq rfl gfX12_13_12 rfl (rfl) ?_
    refine a_l2 rfl rfl rfl ?_
    refine a_s rfl rfl ?_
    refine a_s rfl rfl ?_
    refine a_top (y := nI (1185 + 4 * ls.length + 1)) ((nI_succ _).symm) ?_
    refine a_ialdv (v := nm T e (nx T e b) 0 60) rfl (n := 2033) rfl (inI_nI (by omega) (by omega)) (by rw [nI_clamp (by omega)]; exact up2_at) ?_
    by_cases c2 : nm T e (nx T e b) 0 60 = -1
    · rw [show lnP T e b o = (false, nx T e b, []) from (if_neg c1).trans (if_pos c2), c2]
      refine a_if_ge rfl (fun c => absurd c (by decide)) (fun _ => ?_)
      refine a_s rfl rfl ?_
      rw [c2] at f3
      exact a_zret rfl rfl rfl ⟨rfl, _, 0, rfl, f3, fun _ => (congrFun (up2_row (by decide)) 12).trans (Rd.be h2), fun z => by cases z⟩
    have k2 : kd T e (nx T e b) = 2 ∧ ¬ nm T e (nx T e b) 0 60 < 0 := by
      unfold nm at c2 ⊢
      by_cases d1 : kd T e (nx T e b) = 2 ∧ 0 ≤ vl T e (nx T e b) ∧ vl T e (nx T e b) ≤ 60
      · rw [if_pos d1]
        exact ⟨d1.1, Int32.not_lt.mpr d1.2.1⟩
      · rw [if_neg d1] at c2
        exact absurd rfl c2
    refine a_if_ge rfl (fun _ => ?_) (fun c => absurd (Int32.not_lt.mp k2.2) c)
    have n2 := nx_lt (T := T) (nm_lt c2)
    have n2e := nx_le (T := T) n1e
    have hpn2 : rn T e 4 (rn T e 2 (nx T e b)) = nx T e (nx T e b) := by
      rw [← en_2 k2.1]
      rfl
    have s3 : up2 J2 421 (1185 + 4 * ls.length + 1) (nm T e (nx T e b) 0 60) 420 16 = nI o.length := ((congrFun (up2_row (by decide)) 16).trans (((Rd.fm h2 420 16 rfl).trans (congrFun (up2_row (by decide)) 16)).trans hst))
    refine a_l0 rfl rfl rfl ?_
    refine a_getq rfl gfX12_13_12 rfl (rfl) ?_
    refine a_l2 rfl rfl rfl ?_
    refine a_s rfl rfl ?_
    refine a_s rfl rfl ?_
    refine a_top (y := nI (1185 + 4 * ls.length + 2)) (nI_addl _ 2) ?_
    refine a_l0 rfl rfl rfl ?_
    refine a_geti rfl gfX12_168_12 rfl ?_
    refine a_top (y := nI o.length) (s3) ?_
    refine a_iastv (k := 1185 + 4 * ls.length + 2) rfl (n := 2033) rfl (inI_nI (by omega) (by omega)) (nI_clamp (by omega)) ?_
    refine a_l0 rfl rfl rfl ?_
    refine a_s rfl rfl ?_
    refine a_puti rfl pfX12_194_12 rfl ?_
    have f5 : Fm (sZ ls.length o.length) I (up2 (up2 (up2 J2 421 (1185 + 4 * ls.length + 1) (nm T e (nx T e b) 0 60)) 421 (1185 + 4 * ls.length + 2) (nI o.length)) 420 13 0) := Fm.up (Fm.up f3 (sZ_in (by omega) (by omega))) rfl
    have w2 : J2 421 (1185 + 4 * ls.length) = kndP T e b := (Rd.fm h2 421 _ rfl).trans up2_at
    refine a_ren (P := fun J => Fm (sZ ls.length o.length) I J ∧ Pp e (rn T e 2 (nx T e b)) J ∧ J 420 16 = nI o.length ∧ J 420 13 = nI 0 ∧ J 421 (1185 + 4 * ls.length) = kndP T e b ∧ J 421 (1185 + 4 * ls.length + 1) = nm T e (nx T e b) 0 60 ∧ J 421 (1185 + 4 * ls.length + 2) = nI o.length) ⟨f5, Pp.dp (Pp.wd (Pp.wd (Rd.pp h2))), ?_, up2_at, ?_, ?_, ?_⟩ (fun J5 hJ5 => ?_)
    · rw [up2_ne (Or.inr (by decide)), up2_row (by decide)]
      exact s3
    · rw [up2_row (by decide), u2_lo (by omega), u2_lo (by omega)]
      exact w2
    · rw [up2_row (by decide), u2_lo (by omega)]
      exact up2_at
    · rw [up2_row (by decide)]
      exact up2_at
    clear f5 f3 f1 s3 w2
    obtain ⟨f5, q5, s5, d5, l50, l51, l52⟩ := hJ5
    have rs5 : RowS (J5 421) o := RowS.eq hrs fun k g1 g2 => f5 421 k (sZ_mid g1 g2)
    have rl5 : LnW (J5 421) ls := LnW.eq hrl fun k g1 g2 => f5 421 k (sZ_lo (by omega) (by omega))
    have T5 : J5 426 = T := (funext fun k => f5 426 k rfl).trans hT
    have C5 : Cf T e o.length (nx T e (nx T e b)) o J5 J5 (rn T e 2 (nx T e b)) := ⟨Fm.rf, rfl, q5, hpn2, s5, rs5, Nat.le_refl _⟩
    -- the line ends here
    have key2 : ∀ {b1 p' : Nat} {o1 : List Int32} {J : Nat → Nat → Int32}, lnP T e b o = (true, b1, o1) → Cf T e o.length b1 o1 J5 J p' → AW S m_X12_readLawLine 41 (fun v h' => v = some (.int (bI (lnP T e b o).1)) ∧ ∃ J p', h' = hp J L w1 w2 t ∧ Fm (sZ ls.length o.length) I J ∧ ((lnP T e b o).1 = false → J 420 12 = nI (lnP T e b o).2.1) ∧ ((lnP T e b o).1 = true → Dl T e (lnP T e b o).2.1 (lnP T e b o).2.2 (lnV T e b o (lnP T e b o).2.2 :: ls) J p')) nX 0 0 128 [some (.ref 420), some (.int (nI ls.length)), some (.int (nI (1185 + 4 * ls.length)))] [] (hp J L w1 w2 t) := by
      intro b1 p' o1 J el C
      rw [el] at gd ⊢
      obtain ⟨-, g2, g3⟩ := gd
      have g3 : b < b1 ∧ o1.length + b ≤ o.length + b1 := g3 rfl
      refine a_l0 rfl rfl rfl ?_
      refine a_getq rfl gfX12_13_12 rfl (rfl) ?_
      refine a_l2 rfl rfl rfl ?_
      refine a_s rfl rfl ?_
      refine a_s rfl rfl ?_
      refine a_top (y := nI (1185 + 4 * ls.length + 3)) (nI_addl _ 3) ?_
      refine a_l0 rfl rfl rfl ?_
      refine a_geti rfl gfX12_168_12 rfl ?_
      refine a_top (y := nI o1.length) (Cf.st C) ?_
      refine a_iastv (k := 1185 + 4 * ls.length + 3) rfl (n := 2033) rfl (inI_nI (by omega) (by omega)) (nI_clamp (by omega)) ?_
      refine a_s rfl rfl ?_
      have lo : ∀ k, k < 1233 → J 421 k = J5 421 k := fun k hk => C.1 421 k (sY_lo (by omega))
      refine a_zret rfl rfl rfl ⟨rfl, _, p', rfl, Fm.up (Fm.tr f5 (Fm.mo C.1 sY_sZ)) (sZ_in (by omega) (by omega)), (fun z => by cases z), fun _ => ⟨Pp.wd (Cf.pp C), Cf.nb C, ?_, ?_, ⟨⟨?_, ?_, ?_, up2_at⟩, ?_⟩, by show o1.length ≤ b1; omega⟩⟩
      · rw [up2_row (by decide)]
        exact Cf.st C
      · exact RowS.eq C.2.2.2.2.2.1 fun k g1 _ => u2_lo (by omega)
      · rw [u2_lo (by omega), lo _ (by omega)]
        exact l50
      · rw [u2_lo (by omega), lo _ (by omega)]
        exact l51
      · rw [u2_lo (by omega), lo _ (by omega)]
        exact l52
      · refine LnW.eq rl5 fun k g1 g2 => ?_
        rw [u2_lo (by omega), lo _ (by omega)]
    refine a_l0 rfl rfl rfl ?_
    refine a_ldcs (q := 130 + 18) rfl (hw.ld (i := 18) (by decide)) ?_
    refine a_gV rfl lX12_128 mo_X12_passes (h_passes (b := nx T e (nx T e b)) (k := 18) hw (by decide) q5 (by rw [T5]; exact hpn2)) rfl rfl rfl ⟨12, _, rfl, rfl, rfl⟩ rfl (fun v' h' hv => ?_)
    obtain ⟨rfl, J6, rfl, h6⟩ := hv
    rw [T5] at h6 ⊢
    cases c3 : isWd T e (nx T e (nx T e b)) 18 with
    | false =>
      refine a_if_eq rfl (fun _ => ?_) (fun z => absurd rfl z)
      rw [if_neg (by rw [c3]; decide)] at h6
      exact key2 ((if_neg c1).trans ((if_neg c2).trans (if_neg (by rw [c3]; decide)))) (Cf.rd C5 h6 (Cf.sk C5))
    | true =>
      refine a_if_eq rfl (fun z => absurd z (by decide)) (fun _ => ?_)
      rw [if_pos c3] at h6
      have n3 := nx_lt (T := T) (isWd_lt c3)
      have C6 : Cf T e o.length (nx T e (nx T e (nx T e b))) o J5 J6 (en T e (nx T e (nx T e b))) := Cf.rd C5 h6 rfl
      have el : lnP T e b o = condR T e 6 (nx T e (nx T e (nx T e b))) o := (if_neg c1).trans ((if_neg c2).trans (if_pos c3))
      refine a_l0 rfl rfl rfl ?_
      refine a_gV rfl lX12_197 mo_X12_readCond (h_readCond_0 hw hbt (Cf.tt C6 T5) (Cf.d C6 d5) (Cf.rf C6) (by omega)) rfl rfl rfl ⟨12, _, rfl, rfl, rfl⟩ rfl (fun v' h' hv => ?_)
      obtain ⟨rfl, J7, p7, rfl, hz7, hf7⟩ := hv
      rw [show seqP T e (seqP T e (atomR T e 6) 20 2004) 19 2005 (nx T e (nx T e (nx T e b))) o = lnP T e b o from el.symm] at hz7 hf7 ⊢
      rcases er : lnP T e b o with ⟨z, b1, o1⟩
      rw [er] at hz7 hf7
      cases z with
      | false =>
        refine a_if_ne rfl (fun z => absurd rfl z) (fun _ => ?_)
        refine a_s rfl rfl ?_
        exact a_zret rfl rfl rfl ⟨rfl, J7, 0, rfl, Fm.tr f5 (Fm.mo (Fm.tr C6.1 (hf7 rfl).1) sY_sZ), fun _ => (hf7 rfl).2, fun z => by cases z⟩
      | true =>
        refine a_if_ne rfl (fun _ => ?_) (fun z => absurd (show (1 : Int32) = 0 from z) (by decide))
        rw [er] at key2
        exact key2 rfl (Cf.cc C6 (hz7 rfl))
  refine a_l0 rfl rfl rfl ?_
  refine a_ldcs (q := 130 + 15) rfl (hw.ld (i := 15) (by decide)) ?_
  refine a_eV1 rfl lX12_109 mo_X12_isWord (h_isWord (k := 15) hw (by decide) h12 hbp hq) rfl rfl rfl ⟨12, _, rfl, rfl, rfl⟩ rfl ?_
  refine a_top (y := bI (isWd T e b 15)) (by rw [hT]; exact congrArg bI (hi 15 (by decide))) ?_
  cases c15 : isWd T e b 15 with
  | true =>
    refine a_if_eq rfl (fun z => absurd z (by decide)) (fun _ => ?_)
    rw [show kndP T e b = 0 from if_pos c15] at key
    refine a_s rfl rfl ?_
    refine a_goto rfl ?_
    exact key
  | false =>
  refine a_if_eq rfl (fun _ => ?_) (fun z => absurd rfl z)
  refine a_l0 rfl rfl rfl ?_
  refine a_ldcs (q := 130 + 16) rfl (hw.ld (i := 16) (by decide)) ?_
  refine a_eV1 rfl lX12_109 mo_X12_isWord (h_isWord (k := 16) hw (by decide) h12 hbp hq) rfl rfl rfl ⟨12, _, rfl, rfl, rfl⟩ rfl ?_
  refine a_top (y := bI (isWd T e b 16)) (by rw [hT]; exact congrArg bI (hi 16 (by decide))) ?_
  cases c16 : isWd T e b 16 with
  | true =>
    refine a_if_eq rfl (fun z => absurd z (by decide)) (fun _ => ?_)
    rw [show kndP T e b = 1 from (if_neg (by rw [c15]; decide)).trans (if_pos c16)] at key
    refine a_s rfl rfl ?_
    refine a_goto rfl ?_
    exact key
  | false =>
  refine a_if_eq rfl (fun _ => ?_) (fun z => absurd rfl z)
  refine a_l0 rfl rfl rfl ?_
  refine a_ldcs (q := 130 + 17) rfl (hw.ld (i := 17) (by decide)) ?_
  refine a_eV1 rfl lX12_109 mo_X12_isWord (h_isWord (k := 17) hw (by decide) h12 hbp hq) rfl rfl rfl ⟨12, _, rfl, rfl, rfl⟩ rfl ?_
  refine a_top (y := bI (isWd T e b 17)) (by rw [hT]; exact congrArg bI (hi 17 (by decide))) ?_
  cases c17 : isWd T e b 17 with
  | false =>
    refine a_if_eq rfl (fun _ => ?_) (fun z => absurd rfl z)
    rw [show kndP T e b = -1 from (if_neg (by rw [c15]; decide)).trans ((if_neg (by rw [c16]; decide)).trans (if_neg (by rw [c17]; decide)))] at key
    refine a_s rfl rfl ?_
    exact key
  | true =>
    refine a_if_eq rfl (fun z => absurd z (by decide)) (fun _ => ?_)
    rw [show kndP T e b = 2 from (if_neg (by rw [c15]; decide)).trans ((if_neg (by rw [c16]; decide)).trans (if_pos c17))] at key
    refine a_s rfl rfl ?_
    refine a_goto rfl ?_
    exact key
/-- what reading a law's text may change, behind its beginning -/
def sG (q k : Nat) : Bool := sR q k || ((Nat.beq q 420 && (Nat.beq k 13 || Nat.beq k 16)) || (Nat.beq q 421 && Nat.ble 1184 k))
theorem sG_hi {k : Nat} (h : 1184 ≤ k) : sG 421 k = true := by
  show (false || (false || (true && Nat.ble 1184 k))) = true
  rw [Nat.ble_eq_true_of_le h]
  rfl
theorem sG_lo {k : Nat} (h : k < 1184) : sG 421 k = false := by
  show (false || (false || (true && Nat.ble 1184 k))) = false
  rw [ble_f h]
  rfl
theorem sR_sG : ∀ q k, sR q k = true → sG q k = true := fun q k h => by
  unfold sG
  rw [h]
  rfl
theorem sZ_sG {nl n : Nat} : ∀ q k, sZ nl n q k = true → sG q k = true := fun q k h => by
  by_cases c : q = 421
  · subst c
    refine sG_hi ?_
    rcases Nat.lt_or_ge k 1184 with g | g
    · rw [sZ_lo (by omega) (by omega)] at h
      cases h
    · exact g
  · unfold sZ at h
    unfold sG
    rw [beqF c] at h ⊢
    exact h
theorem sG_sL : ∀ q k, sG q k = true → sL q k = true := fun q k h => by
  by_cases c : q = 421
  · subst c
    refine sL_hi ?_
    rcases Nat.lt_or_ge k 1184 with g | g
    · rw [sG_lo g] at h
      cases h
    · exact g
  · refine sZ_sL (nl := 0) (n := 0) q k ?_
    unfold sG at h
    unfold sZ
    rw [beqF c] at h ⊢
    exact h
theorem Dl.rd {J : Nat → Nat → Int32} {b2 p' : Nat} (h : Dl T e b o ls I p) (r : Rd e p b2 p' I J) (hb : rn T e 4 p' = b) : Dl T e b o ls J p' := by
  obtain ⟨-, -, h3, h4, h5, h6⟩ := h
  exact ⟨Rd.pp r, hb, (Rd.fm r 420 16 rfl).trans h3, by rw [Rd.w r]; exact h4, by rw [Rd.w r]; exact h5, h6⟩
theorem h_readLineL (hw : WdS S) (hbt : BtT T) (hT : I 426 = T) (h : Dl T e b o ls I p) (hl : ls.length ≤ 12) : Sp S m_X12_readLine 60 0 0 [.ref 420, .int (bI false), .int (nI ls.length)] (hp I L w1 w2 t) (fun v h' => v = some (.int (bI (decide (ls.length < 12) && (lnP T e b o).1))) ∧ ∃ J p', h' = hp J L w1 w2 t ∧ Fm sG I J ∧ (ls.length < 12 → (lnP T e b o).1 = false → J 420 12 = nI (lnP T e b o).2.1) ∧ (¬ ls.length < 12 → J 420 12 = nI b) ∧ (ls.length < 12 → (lnP T e b o).1 = true → Dl T e (lnP T e b o).2.1 (lnP T e b o).2.2 (lnV T e b o (lnP T e b o).2.2 :: ls) J p')) nX := by
  obtain ⟨hq, hnb, hst, hrs, hrl, hB⟩ := h
  refine Sp_of ok_X12_readLine rfl rfl ?_
  show AW S m_X12_readLine 60 _ _ 0 0 0 [some (.ref 420), some (.int (bI false)), some (.int (nI ls.length))] [] (hp I L w1 w2 t)
  refine a_l0 rfl rfl rfl ?_
  refine a_gV rfl lX12_106 mo_X12_letters (h_letters hq) rfl rfl rfl ⟨12, _, rfl, rfl, rfl⟩ rfl (fun v' h' hv => ?_)
  obtain ⟨rfl, J, rfl, h1⟩ := hv
  rw [hT, hnb] at h1
  have f1 : Fm sG I J := Fm.mo (Rd.fm h1) sR_sG
  have hbe : b ≤ e := by
    rw [← hnb]
    exact rn_le (Pp.le hq)
  refine a_l2 rfl rfl rfl ?_
  refine a_l1 rfl rfl rfl ?_
  refine a_if_eq rfl (fun _ => ?_) (fun c => absurd rfl c)
  refine a_s rfl rfl ?_
  refine a_ic_ge rfl (fun c => ?_) (fun c => ?_)
  · have h12 := nI_ge_of (b := 12) c (by omega) (by decide)
    have n12 : ¬ ls.length < 12 := by omega
    rw [show decide (ls.length < 12) = false from decide_eq_false n12]
    refine a_s rfl rfl ?_
    exact a_zret rfl rfl rfl ⟨rfl, J, 0, rfl, f1, fun z => absurd z n12, fun _ => Rd.be h1, fun z => absurd z n12⟩
  have hnl : ls.length < 12 := nI_lt_of (b := 12) c (by omega) (by decide)
  rw [show decide (ls.length < 12) = true from decide_eq_true hnl]
  refine a_l1 rfl rfl rfl ?_
  refine a_if_eq rfl (fun _ => ?_) (fun c => absurd rfl c)
  refine a_l0 rfl rfl rfl ?_
  refine a_l2 rfl rfl rfl ?_
  have eT : J 426 = T := (Rd.T h1).trans hT
  refine a_gV rfl lX12_229 mo_X12_readLawLine (h_readLawLine hw hbt eT hnl (Rd.be h1) (Rd.pp h1) rfl (by rw [← hnb]; exact rn_rn) ((Rd.fm h1 420 16 rfl).trans hst) (by rw [Rd.w h1]; exact hrs) (by rw [Rd.w h1]; exact hrl) hB hbe) rfl rfl rfl ⟨12, _, rfl, rfl, rfl⟩ rfl (fun v' h' hv => ?_)
  obtain ⟨rfl, J2, p2, rfl, f2, hn2, hy2⟩ := hv
  have f3 : Fm sG I J2 := Fm.tr f1 (Fm.mo f2 sZ_sG)
  cases c3 : (lnP T e b o).1 with
  | false =>
    refine a_if_eq rfl (fun _ => ?_) (fun z => absurd rfl z)
    refine a_s rfl rfl ?_
    exact a_zret rfl rfl rfl ⟨rfl, J2, 0, rfl, f3, fun _ _ => hn2 c3, fun z => absurd hnl z, fun _ z => by cases z⟩
  | true =>
    refine a_if_eq rfl (fun z => absurd z (by decide)) (fun _ => ?_)
    refine a_s rfl rfl ?_
    refine a_goto rfl ?_
    exact a_zret rfl rfl rfl ⟨rfl, J2, p2, rfl, f3, fun _ z => (by cases z), fun z => absurd hnl z, fun _ _ => hy2 c3⟩
/-- behind all lines -/
def LwR (r : LRs) (J : Nat → Nat → Int32) : Prop := J 420 16 = nI r.2.2.1.length ∧ RowS (J 421) r.2.2.1 ∧ LnW (J 421) r.2.2.2 ∧ r.2.2.2.length ≤ 12 ∧ r.2.2.1.length ≤ 400
theorem h_readAllL (hw : WdS S) (hbt : BtT T) (hT : I 426 = T) (h9 : I 420 9 = nI e) (h4 : e ≤ 400) : Sp S m_X12_readAll 61 0 0 [.ref 420, .int (bI false)] (hp I L w1 w2 t) (fun v h' => v = some (.int (if (lawP T e).1 = true then nI (lawP T e).2.2.2.length else -1)) ∧ ∃ J, h' = hp J L w1 w2 t ∧ Fm sG (usH I) J ∧ ((lawP T e).1 = false → J 420 12 = nI (lawP T e).2.1) ∧ ((lawP T e).1 = true → LwR (lawP T e) J)) nX := by
  refine Sp_of ok_X12_readAll rfl rfl ?_
  show AW S m_X12_readAll 61 _ _ 0 0 0 [some (.ref 420), some (.int (bI false)), none] [] (hp I L w1 w2 t)
  have T0 : up2 (usH I) 420 16 0 426 = T := ((up2_row (by decide)).trans (usH_row (by decide))).trans hT
  have P0 : Pp e 0 (up2 (usH I) 420 16 0) := ⟨(up2_ne (Or.inr (by decide))).trans up2_at, ((up2_ne (Or.inr (by decide))).trans usH_11).trans h9, Nat.zero_le _, h4⟩
  have F0 : Fm sG (usH I) (up2 (usH I) 420 16 0) := Fm.up Fm.rf rfl
  refine a_l0 rfl rfl rfl ?_
  refine a_eV0 rfl lX12_232 mo_X12_uses r_X12_uses rfl rfl rfl ⟨12, _, rfl, rfl, rfl⟩ rfl ?_
  refine a_l0 rfl rfl rfl ?_
  refine a_s rfl rfl ?_
  refine a_puti rfl pfX12_168_12 rfl ?_
  refine a_l0 rfl rfl rfl ?_
  refine a_gV rfl lX12_94 mo_X12_blanks (h_blanks (I := up2 (usH I) 420 16 0) P0) rfl rfl rfl ⟨12, _, rfl, rfl, rfl⟩ rfl (fun v' h' hv => ?_)
  obtain ⟨rfl, J1, rfl, h1⟩ := hv
  rw [T0] at h1
  have h1 : Rd e 0 (bg T e 0) (bg T e 0) (up2 (usH I) 420 16 0) J1 := h1
  have F1 : Fm sG (usH I) J1 := Fm.tr F0 (Fm.mo (Rd.fm h1) sR_sG)
  have D1 : Dl T e (bg T e 0) [] [] J1 (bg T e 0) := ⟨Rd.pp h1, bg_sk 0, (Rd.fm h1 420 16 rfl).trans (up2_at.trans nI_0.symm), trivial, trivial, Nat.zero_le _⟩
  have hb0 := bg_le (T := T) (e := e) 0
  refine a_l0 rfl rfl rfl ?_
  refine a_geti rfl gfX12_81_12 rfl ?_
  refine a_top (y := nI (bg T e 0)) (Pp.pu (Rd.pp h1)) ?_
  refine a_l0 rfl rfl rfl ?_
  refine a_geti rfl gfX12_84_12 rfl ?_
  refine a_top (y := nI e) (Pp.en (Rd.pp h1)) ?_
  refine a_ic_ne rfl (fun c0 => ?_) (fun c0 => ?_)
  rotate_left
  · have c0 := nI_inj (by omega) (by omega) c0
    have el : lawP T e = (true, bg T e 0, [], []) := if_neg (by omega)
    rw [el, if_pos rfl]
    refine a_s rfl rfl ?_
    exact a_iret rfl rfl ⟨nI_0 ▸ rfl, J1, rfl, F1, fun z => (by cases z), fun _ => ⟨D1.2.2.1, trivial, trivial, Nat.zero_le _, Nat.zero_le _⟩⟩
  have c0 : bg T e 0 < e := by
    rcases Nat.lt_or_ge (bg T e 0) e with g | g
    · exact g
    · exact absurd (congrArg nI (show bg T e 0 = e by omega)) c0
  refine a_s rfl rfl ?_
  refine a_s2 rfl rfl rfl rfl rfl rfl ?_
  refine a_inv (n := 12) (fun m ls h => ∃ b' o' ls' p' J, ls = [some (.ref 420), some (.int (bI false)), some (.int (nI ls'.length))] ∧ h = hp J L w1 w2 t ∧ Dl T e b' o' ls' J p' ∧ Fm sG (usH I) J ∧ lnsP T e (12 - ls'.length) b' o' ls' = lawP T e ∧ ls'.length ≤ 12 ∧ m = 12 - ls'.length) ⟨bg T e 0, [], [], bg T e 0, J1, rfl, rfl, D1, F1, (if_pos c0).symm, by decide, rfl⟩ ?_
  rintro m _ _ ⟨b', o', ls', p', J, rfl, rfl, hD, hF, es, hl, hm⟩ ih
  have eT : J 426 = T := ((funext fun k => hF 426 k rfl).trans (usH_row (by decide))).trans hT
  refine a_l0 rfl rfl rfl ?_
  refine a_l1 rfl rfl rfl ?_
  refine a_l2 rfl rfl rfl ?_
  refine a_gV rfl lX12_235 mo_X12_readLine (h_readLineL hw hbt eT hD hl) rfl rfl rfl ⟨12, _, rfl, rfl, rfl⟩ rfl (fun v' h' hv => ?_)
  obtain ⟨rfl, J2, p2, rfl, f2, hn2, hx2, hy2⟩ := hv
  have hF2 : Fm sG (usH I) J2 := Fm.tr hF f2
  have hb' : b' ≤ e := by
    rw [← hD.2.1]
    exact rn_le (Pp.le hD.1)
  have gd := lnP_gd (T := T) (o := o') hb'
  by_cases c12 : ls'.length < 12
  rotate_left
  · rw [show 12 - ls'.length = 0 by omega] at es
    have es : lawP T e = (false, b', [], []) := es.symm
    rw [show decide (ls'.length < 12) = false from decide_eq_false c12]
    refine a_if_ne rfl (fun z => absurd rfl z) (fun _ => ?_)
    refine a_s rfl rfl ?_
    rw [es, if_neg Bool.false_ne_true]
    exact a_iret rfl rfl ⟨rfl, J2, rfl, hF2, fun _ => hx2 c12, fun z => by cases z⟩
  obtain ⟨f, hf⟩ : ∃ f, 12 - ls'.length = f + 1 := ⟨12 - ls'.length - 1, by omega⟩
  rw [hf, lnsP_s] at es
  rw [show decide (ls'.length < 12) = true from decide_eq_true c12]
  have hn2 := hn2 c12
  have hy2 := hy2 c12
  clear hx2
  rcases er : lnP T e b' o' with ⟨z, b1, o1⟩
  rw [er] at es hn2 hy2 gd
  cases z with
  | false =>
    refine a_if_ne rfl (fun z => absurd rfl z) (fun _ => ?_)
    have es : lawP T e = (false, b1, [], []) := es.symm
    refine a_s rfl rfl ?_
    rw [es, if_neg Bool.false_ne_true]
    exact a_iret rfl rfl ⟨rfl, J2, rfl, hF2, fun _ => hn2 rfl, fun z => by cases z⟩
  | true =>
  refine a_if_ne rfl (fun _ => ?_) (fun z => absurd (show (1 : Int32) = 0 from z) (by decide))
  rw [if_pos rfl] at es
  have D2 : Dl T e b1 o1 (lnV T e b' o' o1 :: ls') J2 p2 := hy2 rfl
  obtain ⟨-, g2, g3⟩ := gd
  have g2 : b1 ≤ e := g2
  have eT2 : J2 426 = T := (funext fun k => f2 426 k rfl).trans eT
  refine a_l0 rfl rfl rfl ?_
  refine a_gV rfl lX12_94 mo_X12_blanks (h_blanks D2.1) rfl rfl rfl ⟨12, _, rfl, rfl, rfl⟩ rfl (fun v' h' hv => ?_)
  obtain ⟨rfl, J3, rfl, h3⟩ := hv
  rw [eT2, D2.2.1] at h3
  have hF3 : Fm sG (usH I) J3 := Fm.tr hF2 (Fm.mo (Rd.fm h3) sR_sG)
  have D3 := Dl.rd D2 h3 (by rw [← D2.2.1]; exact rn_rn)
  have eT3 : J3 426 = T := (Rd.T h3).trans eT2
  refine a_l0 rfl rfl rfl ?_
  refine a_geti rfl gfX12_81_12 rfl ?_
  refine a_top (y := nI b1) (Pp.pu (Rd.pp h3)) ?_
  refine a_l0 rfl rfl rfl ?_
  refine a_geti rfl gfX12_84_12 rfl ?_
  refine a_top (y := nI e) (Pp.en (Rd.pp h3)) ?_
  refine a_ic_ne rfl (fun c1 => ?_) (fun c1 => ?_)
  rotate_left
  · have c1 := nI_inj (by omega) (by omega) c1
    have es : lawP T e = (true, b1, o1, lnV T e b' o' o1 :: ls') := es.symm.trans (if_neg (show ¬ b1 < e by omega))
    refine a_l2 rfl rfl rfl ?_
    refine a_s rfl rfl ?_
    refine a_s rfl rfl ?_
    refine a_top (y := nI (ls'.length + 1)) ((nI_succ _).symm) ?_
    rw [es, if_pos rfl]
    obtain ⟨-, -, x1, x2, x3, x4⟩ := D3
    exact a_iret rfl rfl ⟨rfl, J3, rfl, hF3, fun z => (by cases z), fun _ => ⟨x1, x2, x3, by show ls'.length + 1 ≤ 12; omega, by show o1.length ≤ 400; omega⟩⟩
  have c1 : b1 < e := by
    rcases Nat.lt_or_ge b1 e with g | g
    · exact g
    · exact absurd (congrArg nI (show b1 = e by omega)) c1
  have es := (if_pos c1).symm.trans es
  refine a_l0 rfl rfl rfl ?_
  refine a_s rfl rfl ?_
  refine a_s rfl rfl ?_
  refine a_eV1 rfl lX12_87 mo_X12_isAt (h_isAt (Rd.pp h3)) rfl rfl rfl ⟨12, _, rfl, rfl, rfl⟩ rfl ?_
  refine a_top (y := bI (sg T e b1 59)) (by rw [eT3]; exact congrArg bI (at_s (c := 59) hbt h4 (by decide))) ?_
  cases c59 : sg T e b1 59 with
  | true =>
    refine a_if_ne rfl (fun _ => ?_) (fun z => absurd (show (1 : Int32) = 0 from z) (by decide))
    have es := (if_pos c59).symm.trans es
    refine a_l0 rfl rfl rfl ?_
    refine a_s rfl rfl ?_
    refine a_geti rfl gfX12_81_12 rfl ?_
    refine a_top (y := nI b1) (Pp.pu (Rd.pp h3)) ?_
    refine a_s rfl rfl ?_
    refine a_s rfl rfl ?_
    refine a_top (y := nI (b1 + 1)) ((nI_succ _).symm) ?_
    refine a_puti rfl pfX12_81_12 rfl ?_
    refine a_iv2 (y := nI (ls'.length + 1)) rfl rfl rfl ((nI_succ _).symm) ?_
    refine a_goto rfl ?_
    have n1 := nx_lt (T := T) c1
    have e3 := en_3 (of_decide_eq_true c59).1
    obtain ⟨-, -, x1, x2, x3, x4⟩ := D3
    exact ih (12 - (ls'.length + 1)) _ _ (by omega) ⟨nx T e b1, o1, lnV T e b' o' o1 :: ls', b1 + 1, _, rfl, rfl, ⟨Pp.to (Rd.pp h3) (by omega), by rw [← e3]; rfl, (up2_ne (Or.inr (by decide))).trans x1, by rw [up2_row (by decide)]; exact x2, by rw [up2_row (by decide)]; exact x3, by omega⟩, Fm.up hF3 rfl, by rw [show 12 - (lnV T e b' o' o1 :: ls').length = f from (by show 12 - (ls'.length + 1) = f; omega)]; exact es, by show ls'.length + 1 ≤ 12; omega, rfl⟩
  | false =>
    refine a_if_ne rfl (fun z => absurd rfl z) (fun _ => ?_)
    have es : lawP T e = (false, b1, [], []) := es.symm.trans (if_neg (by rw [c59]; decide))
    refine a_s rfl rfl ?_
    rw [es, if_neg Bool.false_ne_true]
    exact a_iret rfl rfl ⟨rfl, J3, rfl, hF3, fun _ => Rd.be h3, fun z => by cases z⟩
theorem h_throwsIf {z : Bool} {x : Int32} : SpE S m_X12_throwsIf 12 [.ref 420, .int (bI z), .int x] (hp I L w1 w2 t) (some (.int (bI z))) (hp (if z = true then up2 I 420 0 x else I) L w1 w2 t) := by
  refine SpE_of ok_X12_throwsIf rfl rfl ?_
  show AW S m_X12_throwsIf 12 _ _ 0 0 0 [some (.ref 420), some (.int (bI z)), some (.int x)] [] (hp I L w1 w2 t)
  refine a_l1 rfl rfl rfl ?_
  cases z with
  | false =>
    refine a_if_eq rfl (fun _ => ?_) (fun c => absurd rfl c)
    refine a_l1 rfl rfl rfl ?_
    exact a_zret rfl rfl rfl ⟨rfl, rfl⟩
  | true =>
    refine a_if_eq rfl (fun c => absurd c (by decide)) (fun _ => ?_)
    refine a_l0 rfl rfl rfl ?_
    refine a_l2 rfl rfl rfl ?_
    refine a_puti rfl pfX12_3_12 rfl ?_
    refine a_l1 rfl rfl rfl ?_
    exact a_zret rfl rfl rfl ⟨rfl, rfl⟩
/-- behind a law's text: what stands in the world -/
def LwJ (r : LRs) (I J : Nat → Nat → Int32) : Prop := (r.1 = true → J 421 3 = 1 ∧ J 421 335 = nI r.2.2.2.length ∧ ∃ K, RowS K r.2.2.1 ∧ LnW K r.2.2.2 ∧ ∀ k, 1 ≤ k → k < 849 → J 421 (335 + k) = K (1184 + k)) ∧ (r.1 = false → ∀ k, k < 1184 → J 421 k = I 421 k)
theorem h_law (hw : WdS S) (hr : RI nd np I) (hbt : BtT T) (hT : I 426 = T) (h9 : I 420 9 = nI e) (h4 : e ≤ 400) : Sp S m_X12_law 62 0 0 [.ref 420] (hp I L w1 w2 t) (fun v h' => v = some (.int (if (lawP T e).1 = true then nI (lawP T e).2.2.2.length else 0)) ∧ ∃ J, h' = hp J L w1 w2 t ∧ Us nd np I J ∧ J 420 0 = (if (lawP T e).1 = true then 0 else 1) ∧ J 420 14 = (if (lawP T e).1 = true then -1 else nI (lawP T e).2.1) ∧ (∀ q, q ≠ 420 → q ≠ 421 → J q = I q) ∧ LwJ (lawP T e) I J) nX := by
  refine Sp_of ok_X12_law rfl rfl ?_
  show AW S m_X12_law 62 _ _ 0 0 0 [some (.ref 420), none, none] [] (hp I L w1 w2 t)
  have fU : Fm sL I (usH I) := by
    unfold usH
    exact Fm.up (Fm.up (Fm.up (Fm.up Fm.rf rfl) rfl) rfl) rfl
  have u0 : usH I 420 0 = 0 := by
    unfold usH
    rw [up2_ne (Or.inr (by decide)), up2_ne (Or.inr (by decide)), up2_ne (Or.inr (by decide))]
    exact up2_at
  refine a_l0 rfl rfl rfl ?_
  refine a_s rfl rfl ?_
  refine a_gV rfl lX12_239 mo_X12_readAll (h_readAllL hw hbt hT h9 h4) rfl rfl rfl ⟨12, _, rfl, rfl, rfl⟩ rfl (fun v' h' hv => ?_)
  obtain ⟨rfl, J, rfl, hF, hn, hy⟩ := hv
  have hG : GL I J := ⟨Fm.tr fU (Fm.mo hF sG_sL), (hF 420 9 rfl).trans usH_9⟩
  have j0 : J 420 0 = 0 := (hF 420 0 rfl).trans u0
  have other : ∀ q, q ≠ 420 → q ≠ 421 → J q = I q := fun q g1 g2 => by
    rw [show J q = usH I q from funext fun k => hF q k (by unfold sG sR; rw [beqF g1, beqF g2]; rfl), usH_row g1]
  rcases er : lawP T e with ⟨z, b1, o1, l1⟩
  rw [er] at hn hy
  have lok := lawP_ok (T := T) (e := e)
  rw [er] at lok
  cases z with
  | false =>
    refine a_top (y := (-1)) (rfl) ?_
    refine a_s1 rfl rfl rfl rfl rfl rfl ?_
    refine a_l0 rfl rfl rfl ?_
    refine a_l1 rfl rfl rfl ?_
    refine a_if_ge rfl (fun c => absurd c (by decide)) (fun _ => ?_)
    refine a_l0 rfl rfl rfl ?_
    refine a_getiv (v := nI b1) rfl gfX12_91_12 rfl (hn rfl) ?_
    refine a_goto rfl ?_
    refine a_puti rfl pfX12_33_12 rfl ?_
    refine a_l0 rfl rfl rfl ?_
    refine a_l1 rfl rfl rfl ?_
    refine a_if_ge rfl (fun c => absurd c (by decide)) (fun _ => ?_)
    refine a_s rfl rfl ?_
    refine a_goto rfl ?_
    refine a_s rfl rfl ?_
    refine a_eV1 rfl lX12_243 mo_X12_throwsIf (h_throwsIf (z := true)) rfl rfl rfl ⟨12, _, rfl, rfl, rfl⟩ rfl ?_
    rw [if_pos rfl]
    refine a_if_eq rfl (fun c => absurd c (by decide)) (fun _ => ?_)
    refine a_s rfl rfl ?_
    have g2 : GL I (up2 (up2 J 420 14 (nI b1)) 420 0 1) := ⟨Fm.up (Fm.up hG.1 rfl) rfl, (up2_ne (Or.inr (by decide))).trans ((up2_ne (Or.inr (by decide))).trans hG.2)⟩
    refine a_iret rfl rfl ⟨rfl, _, rfl, Us.same hr g2, ?_, ?_, ?_, ?_, ?_⟩
    · exact up2_at
    · exact (up2_ne (Or.inr (by decide))).trans up2_at
    · intro q g1 g3
      rw [up2_row g1, up2_row g1]
      exact other q g1 g3
    · exact fun z => by cases z
    · intro _ k hk
      rw [up2_row (by decide), up2_row (by decide), hF 421 k (sG_lo hk), usH_row (by decide)]
  | true =>
    refine a_top (y := nI l1.length) (rfl) ?_
    obtain ⟨x1, x2, x3, x4, x5⟩ := hy rfl
    have x4 : l1.length ≤ 12 := x4
    have x5 : o1.length ≤ 400 := x5
    refine a_s1 rfl rfl rfl rfl rfl rfl ?_
    refine a_l0 rfl rfl rfl ?_
    refine a_l1 rfl rfl rfl ?_
    refine a_if_ge rfl (fun _ => ?_) (fun c => absurd (nI_0le (k := l1.length) (by omega)) c)
    refine a_s rfl rfl ?_
    refine a_puti rfl pfX12_33_12 rfl ?_
    refine a_l0 rfl rfl rfl ?_
    refine a_l1 rfl rfl rfl ?_
    refine a_if_ge rfl (fun _ => ?_) (fun c => absurd (nI_0le (k := l1.length) (by omega)) c)
    refine a_s rfl rfl ?_
    refine a_s rfl rfl ?_
    refine a_eV1 rfl lX12_243 mo_X12_throwsIf (h_throwsIf (z := false)) rfl rfl rfl ⟨12, _, rfl, rfl, rfl⟩ rfl ?_
    rw [if_neg Bool.false_ne_true]
    generalize hK : up2 J 420 14 (-1) = K
    have gK : GL I K := by
      subst hK
      exact ⟨Fm.up hG.1 rfl, (up2_ne (Or.inr (by decide))).trans hG.2⟩
    have eK : K 421 = J 421 := by
      subst hK
      exact up2_row (by decide)
    have k0 : K 420 0 = 0 := by
      subst hK
      exact (up2_ne (Or.inr (by decide))).trans j0
    have k14 : K 420 14 = -1 := by
      subst hK
      exact up2_at
    have kother : ∀ q, q ≠ 420 → q ≠ 421 → K q = I q := fun q g1 g2 => by
      subst hK
      rw [up2_row g1]
      exact other q g1 g2
    have fin := Us.law (nl := l1.length) hr gK x4 x5 (by rw [eK]; exact LD_of x2 x3 (lok rfl))
    refine a_if_eq rfl (fun _ => ?_) (fun c => absurd rfl c)
    refine a_l0 rfl rfl rfl ?_
    refine a_getq rfl gfX12_13_12 rfl (rfl) ?_
    refine a_s rfl rfl ?_
    refine a_l1 rfl rfl rfl ?_
    refine a_iastv (k := 1184) rfl (n := 2033) rfl ⟨by decide, by decide⟩ rfl ?_
    refine a_s rfl rfl ?_
    refine a_s2 rfl rfl rfl rfl rfl rfl ?_
    refine a_forE (n := 849) (fun j => [some (.ref 420), some (.int (nI l1.length)), some (.int (nI j))]) (fun j => hp (cpR (up2 K 421 1184 (nI l1.length)) 421 335 421 1184 j) L w1 w2 t) (by simp [lsub, nI_0]) (by rw [cpR_0]) ?_ (fun j hj ih => ?_)
    · refine a_l2 rfl rfl rfl ?_
      refine a_s rfl rfl ?_
      refine a_ic_ge rfl (fun _ => ?_) (fun c => absurd (Int32.le_refl _) c)
      refine a_l0 rfl rfl rfl ?_
      refine a_getq rfl gfX12_13_12 rfl (rfl) ?_
      refine a_s rfl rfl ?_
      refine a_s rfl rfl ?_
      refine a_iastv (k := 3) rfl (n := 2033) rfl ⟨by decide, by decide⟩ rfl ?_
      refine a_l0 rfl rfl rfl ?_
      refine a_s rfl rfl ?_
      refine a_puti rfl pfX12_53_12 rfl ?_
      refine a_l1 rfl rfl rfl ?_
      have r0 : ∀ k, k ≠ 7 → lawH K l1.length 420 k = K 420 k := fun k hk => by
        unfold lawH
        rw [up2_ne (Or.inr hk), up2_row (by decide), cpR_row (by decide), up2_row (by decide)]
      refine a_iret rfl rfl ⟨rfl, _, rfl, fin, ?_, ?_, ?_, ?_, ?_⟩
      · exact (r0 0 (by decide)).trans k0
      · exact (r0 14 (by decide)).trans k14
      · intro q g1 g2
        show lawH K l1.length q = I q
        unfold lawH
        rw [up2_row g1, up2_row g2, cpR_row g2, up2_row g2]
        exact kother q g1 g2
      · refine fun _ => ⟨?_, ?_, J 421, x2, x3, fun k k1 k2 => ?_⟩
        · show lawH K l1.length 421 3 = 1
          unfold lawH
          rw [up2_row (by decide)]
          exact up2_at
        · show lawH K l1.length 421 335 = nI l1.length
          unfold lawH
          rw [up2_row (by decide), u2_lo (by decide), show 335 = 335 + 0 by omega, cpR_in (by decide)]
          exact up2_at
        · show lawH K l1.length 421 (335 + k) = _
          unfold lawH
          rw [up2_row (by decide), u2_lo (by omega), cpR_in k2, u2_lo (by omega), eK, Nat.add_comm]
      · exact fun z => by cases z
    · refine a_l2 rfl rfl rfl ?_
      refine a_s rfl rfl ?_
      refine a_ic_ge rfl (fun c => absurd c (nI_ge (b := 849) hj (by omega))) (fun _ => ?_)
      refine a_l0 rfl rfl rfl ?_
      refine a_getq rfl gfX12_13_12 rfl (rfl) ?_
      refine a_s rfl rfl ?_
      refine a_l2 rfl rfl rfl ?_
      refine a_s rfl rfl ?_
      refine a_top (y := nI (335 + j)) (nI_addl 335 j) ?_
      refine a_l0 rfl rfl rfl ?_
      refine a_getq rfl gfX12_13_12 rfl (rfl) ?_
      refine a_s rfl rfl ?_
      refine a_l2 rfl rfl rfl ?_
      refine a_s rfl rfl ?_
      refine a_top (y := nI (1184 + j)) (nI_addl 1184 j) ?_
      refine a_ialdv (v := up2 K 421 1184 (nI l1.length) 421 (j + 1184)) rfl (n := 2033) rfl (inI_nI (by omega) (by omega)) (by rw [nI_clamp (by omega), cpR_out (by omega), Nat.add_comm]) ?_
      refine a_iastv (k := 335 + j) rfl (n := 2033) rfl (inI_nI (by omega) (by omega)) (nI_clamp (by omega)) ?_
      rw [cpR_succ]
      refine a_i2 rfl rfl rfl ?_
      refine a_goto rfl ?_
      exact a_back ih (by simp [lsub, nI_1]) rfl
end T79i
