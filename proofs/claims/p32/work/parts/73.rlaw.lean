/-! ===== the reference: a law's line, a law ===== -/
section T73
variable {S : aS} {I : Nat → Nat → Int32} {L : Nat → Nat → Int64} {w1 w2 t : Nat} {e p n nl : Nat}
set_option maxRecDepth 100000
/-- what a line of a law may change -/
def sZ (nl n q k : Nat) : Bool := sR q k || ((Nat.beq q 420 && (Nat.beq k 13 || Nat.beq k 16)) || (Nat.beq q 421 && (Nat.ble (1233 + 2 * n) k || (Nat.ble (1185 + 4 * nl) k && Nat.blt k 1233))))
theorem ble_f {a b : Nat} (h : b < a) : Nat.ble a b = false := by
  cases hb : Nat.ble a b with
  | false => rfl
  | true => exact absurd (Nat.le_of_ble_eq_true hb) (by omega)
theorem sZ_421 {k : Nat} : sZ nl n 421 k = (Nat.ble (1233 + 2 * n) k || (Nat.ble (1185 + 4 * nl) k && Nat.blt k 1233)) := by
  show (false || (false || (true && _))) = _
  rfl
theorem sZ_lo {k : Nat} (h : k < 1185 + 4 * nl) (h2 : k < 1233) : sZ nl n 421 k = false := by
  rw [sZ_421, ble_f (show k < 1233 + 2 * n by omega), ble_f (show k < 1185 + 4 * nl from h)]
  rfl
theorem sZ_mid {k : Nat} (h : 1233 ≤ k) (h2 : k < 1233 + 2 * n) : sZ nl n 421 k = false := by
  rw [sZ_421, ble_f h2, show Nat.blt k 1233 = false from ble_f (by omega)]
  cases Nat.ble (1185 + 4 * nl) k <;> rfl
theorem sZ_in {k : Nat} (h : 1185 + 4 * nl ≤ k) (h2 : k < 1233) : sZ nl n 421 k = true := by
  rw [sZ_421, Nat.ble_eq_true_of_le h, show Nat.blt k 1233 = true from Nat.ble_eq_true_of_le h2]
  cases Nat.ble (1233 + 2 * n) k <;> rfl
theorem sY_sZ : ∀ q k, sY n q k = true → sZ nl n q k = true := fun q k h => by
  by_cases c : q = 421
  · subst c
    have : ¬ k < 1233 + 2 * n := fun z => by
      rw [sY_lo z] at h
      cases h
    rw [sZ_421, Nat.ble_eq_true_of_le (show 1233 + 2 * n ≤ k by omega)]
    rfl
  · unfold sY at h
    unfold sZ
    rw [beqF c] at h ⊢
    exact h
theorem sR_sZ : ∀ q k, sR q k = true → sZ nl n q k = true := fun q k h => sY_sZ q k (sR_sY q k h)
def QW (e p nl n : Nat) (I : Nat → Nat → Int32) (L : Nat → Nat → Int64) (w1 w2 t : Nat) : Option Value → aH → Prop := fun v h' => ∃ z J p' n', v = some (.int (bI z)) ∧ h' = hp J L w1 w2 t ∧ Fm (sZ nl n) I J ∧ p ≤ p' ∧ Pp e p' J ∧ (z = true → J 420 16 = nI n' ∧ n' ≤ p' ∧ n ≤ n' ∧ GdW (J 421) n' ∧ J 421 (1185 + 4 * nl + 2) = nI n ∧ J 421 (1185 + 4 * nl + 3) = nI n' ∧ LineOk (cdD (J 421)) n (n' - n))
theorem QW.no {p' : Nat} {J : Nat → Nat → Int32} (f : Fm (sZ nl n) I J) (hpp : p ≤ p') (hq : Pp e p' J) : QW e p nl n I L w1 w2 t (some (.int (bI false))) (hp J L w1 w2 t) := ⟨false, J, p', 0, rfl, rfl, f, hpp, hq, fun z => by cases z⟩
theorem Pp.wd {J : Nat → Nat → Int32} {k : Nat} {x : Int32} (h : Pp e p J) : Pp e p (up2 J 421 k x) := by
  unfold Pp
  rw [up2_row (by decide)]
  exact h
theorem Pp.dp {J : Nat → Nat → Int32} {x : Int32} (h : Pp e p J) : Pp e p (up2 J 420 13 x) := by
  unfold Pp
  rw [up2_ne (Or.inr (by decide)), up2_ne (Or.inr (by decide))]
  exact h
theorem GdW.eq {W W' : Nat → Int32} (h : GdW W n) (e : ∀ k, 1233 ≤ k → k < 1233 + 2 * n → W' k = W k) : GdW W' n := by
  intro i hi
  obtain ⟨k, m, g1, g2, g3, g4⟩ := h i hi
  exact ⟨k, m, g1, g2, (e _ (by omega) (by omega)).trans g3, (e _ (by omega) (by omega)).trans g4⟩
theorem cdD_eq2 {W W' : Nat → Int32} (e : ∀ k, 1233 ≤ k → k < 1233 + 2 * n → W' k = W k) {i : Nat} (hi : i < n) : cdD W' i = cdD W i := by
  unfold cdD
  rw [e _ (by omega) (by omega), e _ (by omega) (by omega)]
theorem r_X12_readLawLine {b : Nat} (hw : WdS S) (hnl : nl < 12) (h12 : I 420 12 = nI b) (hbp : b ≤ p) (hq : Pp e p I) (hst : I 420 16 = nI n) (hnb : n ≤ b) (hg : GdW (I 421) n) : Sp S m_X12_readLawLine 41 0 0 [.ref 420, .int (nI nl)] (hp I L w1 w2 t) (QW e p nl n I L w1 w2 t) nX := by
  have hpe := Pp.le hq
  have he4 := Pp.e4 hq
  refine Sp_of ok_X12_readLawLine rfl rfl ?_
  show AW S m_X12_readLawLine 41 _ _ 0 0 0 [some (.ref 420), some (.int (nI nl)), none] [] (hp I L w1 w2 t)
  refine a_s rfl rfl ?_
  refine a_s rfl rfl ?_
  refine a_l1 rfl rfl rfl ?_
  refine a_s rfl rfl ?_
  refine a_top (y := nI (4 * nl)) (nI_mul 4 nl) ?_
  refine a_s rfl rfl ?_
  refine a_top (y := nI (1185 + 4 * nl)) (nI_addl 1185 (4 * nl)) ?_
  refine a_s2 rfl rfl rfl rfl rfl rfl ?_
  refine a_l0 rfl rfl rfl ?_
  refine a_getq rfl gfX12_13_12 rfl (rfl) ?_
  refine a_l2 rfl rfl rfl ?_
  have key : ∀ v : Int32, (v = -1 ∨ b < p) → AW S m_X12_readLawLine 41 (QW e p nl n I L w1 w2 t) nX 0 0 53 [some (.ref 420), some (.int (nI nl)), some (.int (nI (1185 + 4 * nl)))] [.int v, .int (nI (1185 + 4 * nl)), .ref 421] (hp I L w1 w2 t) := by
    intro v hv
    refine a_iastv (k := 1185 + 4 * nl) rfl (n := 2033) rfl (inI_nI (by omega) (by omega)) (nI_clamp (by omega)) ?_
    have f1 : Fm (sZ nl n) I (up2 I 421 (1185 + 4 * nl) v) := Fm.up Fm.rf (sZ_in (by omega) (by omega))
    refine a_l0 rfl rfl rfl ?_
    refine a_getq rfl gfX12_13_12 rfl (rfl) ?_
    refine a_l2 rfl rfl rfl ?_
    refine a_ialdv (v := v) rfl (n := 2033) rfl (inI_nI (by omega) (by omega)) (by rw [nI_clamp (by omega)]; exact up2_at) ?_
    refine a_if_ge rfl (fun c => ?_) (fun _ => ?_)
    rotate_left
    · refine a_s rfl rfl ?_
      exact a_zret rfl rfl rfl (QW.no f1 (Nat.le_refl _) (Pp.wd hq))
    have hlt := hv.resolve_left (fun z => by subst z; exact absurd c (by decide))
    refine a_l0 rfl rfl rfl ?_
    refine a_getq rfl gfX12_13_12 rfl (rfl) ?_
    refine a_l2 rfl rfl rfl ?_
    refine a_s rfl rfl ?_
    refine a_s rfl rfl ?_
    refine a_top (y := nI (1185 + 4 * nl + 1)) ((nI_succ _).symm) ?_
    refine a_l0 rfl rfl rfl ?_
    refine a_s rfl rfl ?_
    refine a_s rfl rfl ?_
    refine a_gV rfl lX12_113 mo_X12_number (r_X12_number (Pp.wd hq)) rfl rfl rfl ⟨12, _, rfl, rfl, rfl⟩ rfl (fun v' h' hv => ?_)
    obtain ⟨x, b2, p2, J2, rfl, rfl, h2, -⟩ := hv
    have hp2 := Nat.le_trans (Rd.pb h2) (Rd.bp h2)
    refine a_iastv (k := 1185 + 4 * nl + 1) rfl (n := 2033) rfl (inI_nI (by omega) (by omega)) (nI_clamp (by omega)) ?_
    have f3 : Fm (sZ nl n) I (up2 J2 421 (1185 + 4 * nl + 1) x) := Fm.up (Fm.tr f1 (Fm.mo (Rd.fm h2) sR_sZ)) (sZ_in (by omega) (by omega))
    refine a_l0 rfl rfl rfl ?_
    refine a_getq rfl gfX12_13_12 rfl (rfl) ?_
    refine a_l2 rfl rfl rfl ?_
    refine a_s rfl rfl ?_
    refine a_s rfl rfl ?_
    refine a_top (y := nI (1185 + 4 * nl + 1)) ((nI_succ _).symm) ?_
    refine a_iald rfl (n := 2033) rfl (inI_nI (by omega) (by omega)) ?_
    refine a_if_ge rfl (fun _ => ?_) (fun _ => ?_)
    rotate_left
    · refine a_s rfl rfl ?_
      exact a_zret rfl rfl rfl (QW.no f3 hp2 (Pp.wd (Rd.pp h2)))
    have s3 : up2 J2 421 (1185 + 4 * nl + 1) x 420 16 = nI n := ((congrFun (up2_row (by decide)) 16).trans (((Rd.fm h2 420 16 rfl).trans (congrFun (up2_row (by decide)) 16)).trans hst))
    refine a_l0 rfl rfl rfl ?_
    refine a_getq rfl gfX12_13_12 rfl (rfl) ?_
    refine a_l2 rfl rfl rfl ?_
    refine a_s rfl rfl ?_
    refine a_s rfl rfl ?_
    refine a_top (y := nI (1185 + 4 * nl + 2)) (nI_addl _ 2) ?_
    refine a_l0 rfl rfl rfl ?_
    refine a_geti rfl gfX12_168_12 rfl ?_
    refine a_top (y := nI n) (s3) ?_
    refine a_iastv (k := 1185 + 4 * nl + 2) rfl (n := 2033) rfl (inI_nI (by omega) (by omega)) (nI_clamp (by omega)) ?_
    refine a_l0 rfl rfl rfl ?_
    refine a_s rfl rfl ?_
    refine a_puti rfl pfX12_194_12 rfl ?_
    have f5 : Fm (sZ nl n) I (up2 (up2 (up2 J2 421 (1185 + 4 * nl + 1) x) 421 (1185 + 4 * nl + 2) (nI n)) 420 13 0) := Fm.up (Fm.up f3 (sZ_in (by omega) (by omega))) rfl
    refine a_ren (P := fun J => Fm (sZ nl n) I J ∧ Pp e p2 J ∧ J 420 16 = nI n ∧ J 420 13 = nI 0 ∧ J 421 (1185 + 4 * nl + 2) = nI n) ⟨f5, Pp.dp (Pp.wd (Pp.wd (Rd.pp h2))), ?_, up2_at, ?_⟩ (fun J5 hJ5 => ?_)
    · rw [up2_ne (Or.inr (by decide)), up2_row (by decide)]
      exact s3
    · rw [up2_row (by decide)]
      exact up2_at
    clear f5 f3 f1 s3
    obtain ⟨f5, q5, s5, d5, l5⟩ := hJ5
    have D5 : Dq e p2 n n [] 1 J5 := by
      refine ⟨q5, s5, by omega, Nat.le_refl _, GdW.eq hg (fun k k1 k2 => f5 421 k (sZ_mid k1 k2)), ?_, fun j hj => ?_⟩
      · rw [Nat.sub_self]
        rfl
      · rw [Nat.sub_self] at hj
        obtain rfl : j = 0 := by omega
        exact ⟨[], rfl, by decide⟩
    have key2 : ∀ {s' : List Bool} {J : Nat → Nat → Int32} {p' n' : Nat}, (s' = [] ∨ s' = [true]) → Cs e p2 n n s' 1 J5 J p' n' → AW S m_X12_readLawLine 41 (QW e p nl n I L w1 w2 t) nX 0 0 128 [some (.ref 420), some (.int (nI nl)), some (.int (nI (1185 + 4 * nl)))] [] (hp J L w1 w2 t) := by
      intro s' J p' n' hs' C
      obtain ⟨g1, g2, g3, g4, g5, g6, g7, g8, g9, g10, g11⟩ := C
      refine a_l0 rfl rfl rfl ?_
      refine a_getq rfl gfX12_13_12 rfl (rfl) ?_
      refine a_l2 rfl rfl rfl ?_
      refine a_s rfl rfl ?_
      refine a_s rfl rfl ?_
      refine a_top (y := nI (1185 + 4 * nl + 3)) (nI_addl _ 3) ?_
      refine a_l0 rfl rfl rfl ?_
      refine a_geti rfl gfX12_168_12 rfl ?_
      refine a_top (y := nI n') (g6) ?_
      refine a_iastv (k := 1185 + 4 * nl + 3) rfl (n := 2033) rfl (inI_nI (by omega) (by omega)) (nI_clamp (by omega)) ?_
      refine a_s rfl rfl ?_
      have ew : ∀ k, 1233 ≤ k → k < 1233 + 2 * n' → up2 J 421 (1185 + 4 * nl + 3) (nI n') 421 k = J 421 k := fun k k1 _ => u2_lo (by omega)
      refine a_zret rfl rfl rfl ⟨true, _, p', n', rfl, rfl, Fm.up (Fm.tr f5 (Fm.mo g1 sY_sZ)) (sZ_in (by omega) (by omega)), by omega, Pp.wd g5, fun _ => ⟨?_, by omega, g4, GdW.eq g9 ew, ?_, up2_at, ?_⟩⟩
      · rw [up2_row (by decide)]
        exact g6
      · rw [u2_lo (by omega), g1 421 _ (sY_lo (by omega))]
        exact l5
      · refine LineOk.congr (cd := cdD (J 421)) ⟨?_, g11⟩ (fun i hi => (cdD_eq2 ew (by omega)).symm)
        rcases hs' with rfl | rfl
        · exact Or.inl g10
        · exact Or.inr g10
    refine a_l0 rfl rfl rfl ?_
    refine a_ldcs (q := 130 + 18) rfl (hw.ld (i := 18) (by decide)) ?_
    refine a_gV rfl lX12_128 mo_X12_passes (r_X12_passes (k := 18) hw (by decide) (Dq.pp D5)) rfl rfl rfl ⟨12, _, rfl, rfl, rfl⟩ rfl (fun v' h' hv => ?_)
    obtain ⟨z6, b6, p6, J6, rfl, rfl, h6, -⟩ := hv
    have C6 := Cs.rd (Cs.rf D5) h6
    refine a_if_eq rfl (fun _ => key2 (Or.inl rfl) C6) (fun _ => ?_)
    refine a_l0 rfl rfl rfl ?_
    refine a_gV rfl lX12_197 mo_X12_readCond (r_X12_readCond_0 hw (Nat.le_refl 1) (by decide) (Cs.d C6 d5) (Cs.dq C6)) rfl rfl rfl ⟨12, _, rfl, rfl, rfl⟩ rfl (fun v' h' hv => ?_)
    obtain ⟨z7, J7, p7, n7, rfl, rfl, f7, hp7, hq7, hz7⟩ := hv
    refine a_if_ne rfl (fun cz7 => key2 (Or.inr rfl) (Cs.st C6 f7 hp7 (hz7 (bI_t cz7)))) (fun _ => ?_)
    refine a_s rfl rfl ?_
    have hp6 := C6.2.1
    exact a_zret rfl rfl rfl (QW.no (Fm.tr f5 (Fm.mo (Cs.fr C6 f7) sY_sZ)) (by omega) hq7)
  refine a_l0 rfl rfl rfl ?_
  refine a_ldcs (q := 130 + 15) rfl (hw.ld (i := 15) (by decide)) ?_
  refine a_gV rfl lX12_109 mo_X12_isWord (r_X12_isWord (k := 15) hw (by decide) h12 hbp hq) rfl rfl rfl ⟨12, _, rfl, rfl, rfl⟩ rfl (fun v' h' hv => ?_)
  obtain ⟨rfl, z, rfl, hz⟩ := hv
  refine a_if_eq rfl (fun _ => ?_) (fun cz => ?_)
  rotate_left
  · refine a_s rfl rfl ?_
    refine a_goto rfl ?_
    exact key 0 (Or.inr (hz (bI_t cz)))
  refine a_l0 rfl rfl rfl ?_
  refine a_ldcs (q := 130 + 16) rfl (hw.ld (i := 16) (by decide)) ?_
  refine a_gV rfl lX12_109 mo_X12_isWord (r_X12_isWord (k := 16) hw (by decide) h12 hbp hq) rfl rfl rfl ⟨12, _, rfl, rfl, rfl⟩ rfl (fun v' h' hv => ?_)
  obtain ⟨rfl, z2, rfl, hz2⟩ := hv
  refine a_if_eq rfl (fun _ => ?_) (fun cz => ?_)
  rotate_left
  · refine a_s rfl rfl ?_
    refine a_goto rfl ?_
    exact key 1 (Or.inr (hz2 (bI_t cz)))
  refine a_l0 rfl rfl rfl ?_
  refine a_ldcs (q := 130 + 17) rfl (hw.ld (i := 17) (by decide)) ?_
  refine a_gV rfl lX12_109 mo_X12_isWord (r_X12_isWord (k := 17) hw (by decide) h12 hbp hq) rfl rfl rfl ⟨12, _, rfl, rfl, rfl⟩ rfl (fun v' h' hv => ?_)
  obtain ⟨rfl, z3, rfl, hz3⟩ := hv
  refine a_if_eq rfl (fun _ => ?_) (fun cz => ?_)
  · refine a_s rfl rfl ?_
    exact key (-1) (Or.inl rfl)
  · refine a_s rfl rfl ?_
    refine a_goto rfl ?_
    exact key 2 (Or.inr (hz3 (bI_t cz)))
/-- a draft of so many lines -/
def LD (nl n : Nat) (W : Nat → Int32) : Prop := GdW W n ∧ ∀ i, i < nl → ∃ a b, W (1185 + 4 * i + 2) = nI a ∧ W (1185 + 4 * i + 3) = nI b ∧ a ≤ b ∧ b ≤ n ∧ LineOk (cdD W) a (b - a)
/-- what a law's text may change -/
def sL (q k : Nat) : Bool := sU q k || (sR q k || ((Nat.beq q 420 && (Nat.beq k 9 || (Nat.beq k 11 || (Nat.beq k 13 || (Nat.beq k 14 || Nat.beq k 16))))) || (Nat.beq q 421 && Nat.ble 1184 k)))
theorem sU_sL : ∀ q k, sU q k = true → sL q k = true := fun q k h => by
  unfold sL
  rw [h]
  rfl
theorem sR_sL : ∀ q k, sR q k = true → sL q k = true := fun q k h => by
  unfold sL
  rw [h]
  cases sU q k <;> rfl
theorem sL_lo {k : Nat} (h : k < 1184) : sL 421 k = false := by
  show (false || (false || (false || (true && Nat.ble 1184 k)))) = false
  rw [ble_f h]
  rfl
theorem sL_hi {k : Nat} (h : 1184 ≤ k) : sL 421 k = true := by
  show (false || (false || (false || (true && Nat.ble 1184 k)))) = true
  rw [Nat.ble_eq_true_of_le h]
  rfl
theorem sL_low {q k : Nat} (h : q < 420 ∨ q = 426) : sL q k = false := by
  have b : ∀ n, 420 ≤ n → n ≠ 426 → Nat.beq q n = false := fun n hn hn2 => beqF (by omega)
  simp [sL, sU, sR, b]
theorem sZ_sL : ∀ q k, sZ nl n q k = true → sL q k = true := fun q k h => by
  by_cases c : q = 421
  · subst c
    refine sL_hi ?_
    rcases Nat.lt_or_ge k 1184 with g | g
    · rw [sZ_lo (by omega) (by omega)] at h
      cases h
    · exact g
  · unfold sZ at h
    unfold sL
    rw [beqF c] at h ⊢
    cases hr : sR q k with
    | true => cases sU q k <;> rfl
    | false =>
      rw [hr] at h
      cases hq : Nat.beq q 420 with
      | false =>
        rw [hq] at h
        cases h
      | true =>
        rw [hq] at h
        cases h1 : Nat.beq k 13 with
        | true => cases sU q k <;> cases Nat.beq k 9 <;> cases Nat.beq k 11 <;> rfl
        | false =>
          rw [h1] at h
          cases h2 : Nat.beq k 16 with
          | true => cases sU q k <;> cases Nat.beq k 9 <;> cases Nat.beq k 11 <;> cases Nat.beq k 14 <;> rfl
          | false =>
            rw [h2] at h
            cases h
def GL (I J : Nat → Nat → Int32) : Prop := Fm sL I J ∧ J 420 9 = 0
theorem GL.tr {J K : Nat → Nat → Int32} {s : Nat → Nat → Bool} (h : GL I J) (f : Fm s J K) (hs : ∀ q k, s q k = true → sL q k = true) (h9 : s 420 9 = false) : GL I K := ⟨Fm.tr h.1 (Fm.mo f hs), (f 420 9 h9).trans h.2⟩
def PL (I : Nat → Nat → Int32) (e nl p : Nat) (J : Nat → Nat → Int32) : Prop := GL I J ∧ nl ≤ 12 ∧ Pp e p J ∧ ∃ n, J 420 16 = nI n ∧ n ≤ p ∧ LD nl n (J 421)
theorem r_X12_readLineL {I0 : Nat → Nat → Int32} (hw : WdS S) (h : PL I0 e nl p I) : Sp S m_X12_readLine 60 0 0 [.ref 420, .int (bI false), .int (nI nl)] (hp I L w1 w2 t) (fun v h' => ∃ zz p' J', v = some (.int (bI zz)) ∧ h' = hp J' L w1 w2 t ∧ GL I0 J' ∧ (zz = true → p ≤ p' ∧ PL I0 e (nl + 1) p' J')) nX := by
  obtain ⟨hG, h12, hq, n, hn, hnp, hD⟩ := h
  refine Sp_of ok_X12_readLine rfl rfl ?_
  show AW S m_X12_readLine 60 _ _ 0 0 0 [some (.ref 420), some (.int (bI false)), some (.int (nI nl))] [] (hp I L w1 w2 t)
  refine a_l0 rfl rfl rfl ?_
  refine a_gV rfl lX12_106 mo_X12_letters (r_X12_letters hq) rfl rfl rfl ⟨12, _, rfl, rfl, rfl⟩ rfl (fun v' h' hv => ?_)
  obtain ⟨rfl, J, b, p', rfl, h1⟩ := hv
  have g1 := GL.tr hG (Rd.fm h1) sR_sL rfl
  refine a_l2 rfl rfl rfl ?_
  refine a_l1 rfl rfl rfl ?_
  refine a_if_eq rfl (fun _ => ?_) (fun c => absurd rfl c)
  refine a_s rfl rfl ?_
  refine a_ic_ge rfl (fun _ => ?_) (fun c => ?_)
  · refine a_s rfl rfl ?_
    exact a_zret rfl rfl rfl ⟨false, p', J, rfl, rfl, g1, fun z => by cases z⟩
  have hnl : nl < 12 := nI_lt_of (b := 12) c (by omega) (by decide)
  refine a_l1 rfl rfl rfl ?_
  refine a_if_eq rfl (fun _ => ?_) (fun c => absurd rfl c)
  refine a_l0 rfl rfl rfl ?_
  refine a_l2 rfl rfl rfl ?_
  have hpb := Rd.pb h1
  refine a_gV rfl lX12_229 mo_X12_readLawLine (r_X12_readLawLine (n := n) hw hnl (Rd.be h1) (Rd.bp h1) (Rd.pp h1) ((Rd.fm h1 420 16 rfl).trans hn) (by omega) (by rw [Rd.w h1]; exact hD.1)) rfl rfl rfl ⟨12, _, rfl, rfl, rfl⟩ rfl (fun v' h' hv => ?_)
  obtain ⟨z, J2, p2, n2, rfl, rfl, f2, hp2, hq2, hz⟩ := hv
  have g2 := GL.tr g1 f2 sZ_sL rfl
  refine a_if_eq rfl (fun _ => ?_) (fun cz => ?_)
  · refine a_s rfl rfl ?_
    exact a_zret rfl rfl rfl ⟨false, p2, J2, rfl, rfl, g2, fun z => by cases z⟩
  obtain ⟨a1, a2, a3, a4, a5, a6, a7⟩ := hz (bI_t cz)
  refine a_s rfl rfl ?_
  refine a_goto rfl ?_
  have hbp := Rd.bp h1
  refine a_zret rfl rfl rfl ⟨true, p2, J2, rfl, rfl, g2, fun _ => ⟨by omega, g2, by omega, hq2, n2, a1, a2, a4, fun i hi => ?_⟩⟩
  by_cases ci : i = nl
  · subst ci
    exact ⟨n, n2, a5, a6, a3, Nat.le_refl _, a7⟩
  · obtain ⟨x, y, y1, y2, y3, y4, y5⟩ := hD.2 i (by omega)
    refine ⟨x, y, ?_, ?_, y3, by omega, LineOk.congr y5 (fun j hj => ?_)⟩
    · rw [f2 421 _ (sZ_lo (by omega) (by omega)), Rd.w h1]
      exact y1
    · rw [f2 421 _ (sZ_lo (by omega) (by omega)), Rd.w h1]
      exact y2
    · rw [cdD_eq2 (n := n) (fun k k1 k2 => f2 421 k (sZ_mid k1 k2)) (by omega), Rd.w h1]
end T73
