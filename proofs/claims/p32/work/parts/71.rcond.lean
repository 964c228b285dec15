/-! ===== the reference: a law's draft, parts, sums, tags ===== -/
section T71
variable {S : aS} {I : Nat → Nat → Int32} {L : Nat → Nat → Int64} {w1 w2 t : Nat} {e p a n c : Nat} {s : List Bool}
set_option maxRecDepth 100000
theorem tyR_congr {cd cd' : Nat → Nat} {a : Nat} : ∀ m, (∀ i, i < m → cd (a + i) = cd' (a + i)) → tyR cd a m = tyR cd' a m := by
  intro m
  induction m with
  | zero => intro _; rfl
  | succ m ih =>
    intro h
    unfold tyR
    rw [ih (fun i hi => h i (by omega)), h m (by omega)]
theorem LineOk.congr {cd cd' : Nat → Nat} {a m : Nat} (h : LineOk cd a m) (e : ∀ i, i < m → cd (a + i) = cd' (a + i)) : LineOk cd' a m := by
  obtain ⟨h1, h2⟩ := h
  refine ⟨?_, fun j hj => ?_⟩
  · rw [← tyR_congr m e]
    exact h1
  · rw [← tyR_congr j (fun i hi => e i (by omega))]
    exact h2 j hj
/-- the codes of a draft -/
def cdD (W : Nat → Int32) (i : Nat) : Nat := trN (W (1233 + 2 * i)).toNatClampNeg (W (1233 + 2 * i + 1)).toNatClampNeg
def GdW (W : Nat → Int32) (n : Nat) : Prop := ∀ i, i < n → ∃ k m, k ≤ 15 ∧ m < 1000 ∧ W (1233 + 2 * i) = nI k ∧ W (1233 + 2 * i + 1) = nI m
def DrW (W : Nat → Int32) (a n : Nat) (s : List Bool) : Prop := a ≤ n ∧ GdW W n ∧ tyR (cdD W) a (n - a) = some s ∧ ∀ j, j ≤ n - a → ∃ t, tyR (cdD W) a j = some t ∧ t.length ≤ 24
theorem cdD_eq {W W' : Nat → Int32} {n : Nat} (h : ∀ k, k < 1233 + 2 * n → W' k = W k) {i : Nat} (hi : i < n) : cdD W' i = cdD W i := by
  unfold cdD
  rw [h _ (by omega), h _ (by omega)]
theorem DrW.em {W W' : Nat → Int32} {k m : Nat} {s' : List Bool} (h : DrW W a n s) (e0 : ∀ k, k < 1233 + 2 * n → W' k = W k) (e1 : W' (1233 + 2 * n) = nI k) (e2 : W' (1233 + 2 * n + 1) = nI m) (hk : k ≤ 15) (hm : m < 1000) (ht : tyS (trN k m) s = some s') (hl : s'.length ≤ 24) : DrW W' a (n + 1) s' := by
  obtain ⟨h1, h2, h3, h4⟩ := h
  have en : cdD W' n = trN k m := by
    unfold cdD
    rw [e1, e2, nI_clamp (by omega), nI_clamp (by omega)]
  have ec : ∀ j, j ≤ n - a → tyR (cdD W') a j = tyR (cdD W) a j := fun j hj => tyR_congr j (fun i hi => cdD_eq e0 (by omega))
  have e3 : tyR (cdD W') a (n + 1 - a) = some s' := by
    rw [show n + 1 - a = (n - a) + 1 by omega]
    unfold tyR
    rw [ec _ (Nat.le_refl _), h3, show a + (n - a) = n by omega, en]
    exact ht
  refine ⟨by omega, fun i hi => ?_, e3, fun j hj => ?_⟩
  · by_cases c : i = n
    · subst c
      exact ⟨k, m, hk, hm, e1, e2⟩
    · obtain ⟨k', m', g1, g2, g3, g4⟩ := h2 i (by omega)
      exact ⟨k', m', g1, g2, (e0 _ (by omega)).trans g3, (e0 _ (by omega)).trans g4⟩
  · by_cases c : j = n + 1 - a
    · subst c
      exact ⟨s', e3, hl⟩
    · rw [ec j (by omega)]
      exact h4 j (by omega)
/-- what reading a law may change when so many steps stand already -/
def sY (n q k : Nat) : Bool := sR q k || ((Nat.beq q 420 && (Nat.beq k 13 || Nat.beq k 16)) || (Nat.beq q 421 && Nat.ble (1233 + 2 * n) k))
theorem sR_sY : ∀ q k, sR q k = true → sY n q k = true := fun q k h => by
  unfold sY
  rw [h]
  rfl
theorem sY_lo {k : Nat} (h : k < 1233 + 2 * n) : sY n 421 k = false := by
  have e1 : Nat.ble (1233 + 2 * n) k = false := by
    cases hb : Nat.ble (1233 + 2 * n) k with
    | false => rfl
    | true => exact absurd (Nat.le_of_ble_eq_true hb) (by omega)
  show (false || (false || (true && Nat.ble (1233 + 2 * n) k))) = false
  rw [e1]
  rfl
theorem sY_hi {k : Nat} (h : 1233 + 2 * n ≤ k) : sY n 421 k = true := by
  show (false || (false || (true && Nat.ble (1233 + 2 * n) k))) = true
  rw [Nat.ble_eq_true_of_le h]
  rfl
theorem sY_mono {n' : Nat} (h : n ≤ n') : ∀ q k, sY n' q k = true → sY n q k = true := fun q k hq => by
  by_cases c : q = 421
  · subst c
    by_cases c2 : k < 1233 + 2 * n'
    · rw [sY_lo c2] at hq
      cases hq
    · exact sY_hi (by omega)
  · unfold sY at hq ⊢
    rw [beqF c] at hq ⊢
    exact hq
def Dq (e p a n : Nat) (s : List Bool) (c : Nat) (J : Nat → Nat → Int32) : Prop := Pp e p J ∧ J 420 16 = nI n ∧ n + c ≤ p ∧ DrW (J 421) a n s
def emH (J : Nat → Nat → Int32) (n : Nat) (x y : Int32) : Nat → Nat → Int32 := up2 (up2 (up2 J 421 (1233 + 2 * n) x) 421 (1233 + 2 * n + 1) y) 420 16 (nI (n + 1))
theorem emH_lo {J : Nat → Nat → Int32} {x y : Int32} {k : Nat} (h : k < 1233 + 2 * n) : emH J n x y 421 k = J 421 k := by
  unfold emH
  rw [up2_row (by decide), u2_lo (by omega), u2_lo (by omega)]
theorem emH_0 {J : Nat → Nat → Int32} {x y : Int32} : emH J n x y 421 (1233 + 2 * n) = x := by
  unfold emH
  rw [up2_row (by decide), u2_lo (by omega)]
  exact up2_at
theorem emH_1 {J : Nat → Nat → Int32} {x y : Int32} : emH J n x y 421 (1233 + 2 * n + 1) = y := by
  unfold emH
  rw [up2_row (by decide)]
  exact up2_at
theorem emH_f {J : Nat → Nat → Int32} {x y : Int32} {k : Nat} (h : k ≠ 16) : emH J n x y 420 k = J 420 k := by
  unfold emH
  rw [up2_ne (Or.inr h), up2_row (by decide), up2_row (by decide)]
theorem emH_fm {J : Nat → Nat → Int32} {x y : Int32} : Fm (sY n) J (emH J n x y) := by
  unfold emH
  exact Fm.up (Fm.up (Fm.up Fm.rf (sY_hi (Nat.le_refl _))) (sY_hi (by omega))) rfl
theorem Pp.em {J : Nat → Nat → Int32} {x y : Int32} (h : Pp e p J) : Pp e p (emH J n x y) := by
  unfold Pp
  rw [emH_f (by decide), emH_f (by decide)]
  exact h
theorem Dq.pp {J : Nat → Nat → Int32} (h : Dq e p a n s c J) : Pp e p J := h.1
theorem Dq.st {J : Nat → Nat → Int32} (h : Dq e p a n s c J) : J 420 16 = nI n := h.2.1
theorem Dq.le {J : Nat → Nat → Int32} (h : Dq e p a n s c J) : n + c ≤ 400 := by
  have := h.2.2.1
  have := Pp.le h.1
  have := Pp.e4 h.1
  omega
theorem Dq.rd {b p' : Nat} {J K : Nat → Nat → Int32} (h : Dq e p a n s c J) (r : Rd e p b p' J K) : Dq e p' a n s c K := by
  have := Rd.pb r
  have := Rd.bp r
  have h3 := h.2.2.1
  refine ⟨Rd.pp r, (Rd.fm r 420 16 rfl).trans h.2.1, by omega, ?_⟩
  rw [Rd.w r]
  exact h.2.2.2
theorem Dq.rd1 {b p' : Nat} {J K : Nat → Nat → Int32} (h : Dq e p a n s c J) (r : Rd e p b p' J K) (hb : b < p') : Dq e p' a n s (c + 1) K := by
  have := Rd.pb r
  have h3 := h.2.2.1
  refine ⟨Rd.pp r, (Rd.fm r 420 16 rfl).trans h.2.1, by omega, ?_⟩
  rw [Rd.w r]
  exact h.2.2.2
theorem Dq.em {J : Nat → Nat → Int32} {k m : Nat} {s' : List Bool} (h : Dq e p a n s (c + 1) J) (hk : k ≤ 15) (hm : m < 1000) (ht : tyS (trN k m) s = some s') (hl : s'.length ≤ 24) : Dq e p a (n + 1) s' c (emH J n (nI k) (nI m)) := by
  have h3 := h.2.2.1
  exact ⟨Pp.em h.1, up2_at, by omega, DrW.em h.2.2.2 (fun k hk => emH_lo hk) emH_0 emH_1 hk hm ht hl⟩
/-- on the way: from I, at p0 with n0 steps, to J, at p with n steps -/
def Cs (e p0 n0 a : Nat) (s : List Bool) (c : Nat) (I J : Nat → Nat → Int32) (p n : Nat) : Prop := Fm (sY n0) I J ∧ p0 ≤ p ∧ J 420 13 = I 420 13 ∧ n0 ≤ n ∧ Dq e p a n s c J
def QC (e p n a : Nat) (s : List Bool) (c : Nat) (I : Nat → Nat → Int32) (L : Nat → Nat → Int64) (w1 w2 t : Nat) : Option Value → aH → Prop := fun v h' => ∃ z J p' n', v = some (.int (bI z)) ∧ h' = hp J L w1 w2 t ∧ Fm (sY n) I J ∧ p ≤ p' ∧ Pp e p' J ∧ (z = true → J 420 13 = I 420 13 ∧ n ≤ n' ∧ Dq e p' a n' s c J)
theorem Cs.rf (h : Dq e p a n s c I) : Cs e p n a s c I I p n := ⟨Fm.rf, Nat.le_refl _, rfl, Nat.le_refl _, h⟩
theorem Cs.dq {p0 n0 : Nat} {J : Nat → Nat → Int32} (h : Cs e p0 n0 a s c I J p n) : Dq e p a n s c J := h.2.2.2.2
theorem Cs.pp {p0 n0 : Nat} {J : Nat → Nat → Int32} (h : Cs e p0 n0 a s c I J p n) : Pp e p J := h.2.2.2.2.1
theorem Cs.fr {p0 n0 : Nat} {J K : Nat → Nat → Int32} (h : Cs e p0 n0 a s c I J p n) (f : Fm (sY n) J K) : Fm (sY n0) I K := Fm.tr h.1 (Fm.mo f (sY_mono h.2.2.2.1))
theorem Cs.rd {p0 n0 b p' : Nat} {J K : Nat → Nat → Int32} (h : Cs e p0 n0 a s c I J p n) (r : Rd e p b p' J K) : Cs e p0 n0 a s c I K p' n := ⟨Cs.fr h (Fm.mo (Rd.fm r) sR_sY), Nat.le_trans h.2.1 (Nat.le_trans (Rd.pb r) (Rd.bp r)), (Rd.fm r 420 13 rfl).trans h.2.2.1, h.2.2.2.1, Dq.rd (Cs.dq h) r⟩
theorem Cs.rd1 {p0 n0 b p' : Nat} {J K : Nat → Nat → Int32} (h : Cs e p0 n0 a s c I J p n) (r : Rd e p b p' J K) (hb : b < p') : Cs e p0 n0 a s (c + 1) I K p' n := ⟨Cs.fr h (Fm.mo (Rd.fm r) sR_sY), Nat.le_trans h.2.1 (Nat.le_trans (Rd.pb r) (Rd.bp r)), (Rd.fm r 420 13 rfl).trans h.2.2.1, h.2.2.2.1, Dq.rd1 (Cs.dq h) r hb⟩
theorem Cs.st {p0 n0 p' n' c' : Nat} {s' : List Bool} {J K : Nat → Nat → Int32} (h : Cs e p0 n0 a s c I J p n) (f : Fm (sY n) J K) (hp' : p ≤ p') (g : K 420 13 = J 420 13 ∧ n ≤ n' ∧ Dq e p' a n' s' c' K) : Cs e p0 n0 a s' c' I K p' n' := ⟨Cs.fr h f, Nat.le_trans h.2.1 hp', g.1.trans h.2.2.1, Nat.le_trans h.2.2.2.1 g.2.1, g.2.2⟩
theorem Cs.em {p0 n0 k m : Nat} {s' : List Bool} {J : Nat → Nat → Int32} (h : Cs e p0 n0 a s (c + 1) I J p n) (hk : k ≤ 15) (hm : m < 1000) (ht : tyS (trN k m) s = some s') (hl : s'.length ≤ 24) : Cs e p0 n0 a s' c I (emH J n (nI k) (nI m)) p (n + 1) := ⟨Cs.fr h emH_fm, h.2.1, (emH_f (by decide)).trans h.2.2.1, Nat.le_trans h.2.2.2.1 (Nat.le_succ _), Dq.em (Cs.dq h) hk hm ht hl⟩
theorem QC.yes {p0 n0 : Nat} {J : Nat → Nat → Int32} (h : Cs e p0 n0 a s c I J p n) : QC e p0 n0 a s c I L w1 w2 t (some (.int (bI true))) (hp J L w1 w2 t) := ⟨true, J, p, n, rfl, rfl, h.1, h.2.1, Cs.pp h, fun _ => ⟨h.2.2.1, h.2.2.2.1, Cs.dq h⟩⟩
theorem QC.no {p0 n0 : Nat} {s' : List Bool} {J : Nat → Nat → Int32} (f : Fm (sY n0) I J) (hpp : p0 ≤ p) (hq : Pp e p J) : QC e p0 n0 a s' c I L w1 w2 t (some (.int (bI false))) (hp J L w1 w2 t) := ⟨false, J, p, 0, rfl, rfl, f, hpp, hq, fun z => by cases z⟩
theorem QC.fc {p0 n0 p' c' : Nat} {s' : List Bool} {J K : Nat → Nat → Int32} (h : Cs e p0 n0 a s c I J p n) (f : Fm (sY n) J K) (hpp : p ≤ p') (hq : Pp e p' K) : QC e p0 n0 a s' c' I L w1 w2 t (some (.int (bI false))) (hp K L w1 w2 t) := QC.no (Cs.fr h f) (Nat.le_trans h.2.1 hpp) hq
theorem QC.f0 {p0 n0 c' : Nat} {s' : List Bool} {J : Nat → Nat → Int32} (h : Cs e p0 n0 a s c I J p n) : QC e p0 n0 a s' c' I L w1 w2 t (some (.int (bI false))) (hp J L w1 w2 t) := QC.no h.1 h.2.1 (Cs.pp h)
theorem r_X12_emits (hn : I 420 16 = nI n) (h4 : n ≤ 399) {x y : Int32} : SpE S m_X12_emits 12 [.ref 420, .int x, .int y] (hp I L w1 w2 t) none (hp (emH I n x y) L w1 w2 t) := by
  refine SpE_of ok_X12_emits rfl rfl ?_
  show AW S m_X12_emits 12 _ _ 0 0 0 [some (.ref 420), some (.int x), some (.int y)] [] (hp I L w1 w2 t)
  refine a_l0 rfl rfl rfl ?_
  refine a_getq rfl gfX12_13_12 rfl (rfl) ?_
  refine a_s rfl rfl ?_
  refine a_s rfl rfl ?_
  refine a_l0 rfl rfl rfl ?_
  refine a_geti rfl gfX12_168_12 rfl ?_
  refine a_top (y := nI n) (hn) ?_
  refine a_s rfl rfl ?_
  refine a_top (y := nI (2 * n)) (nI_mul 2 n) ?_
  refine a_s rfl rfl ?_
  refine a_top (y := nI (1233 + 2 * n)) (nI_addl 1233 (2 * n)) ?_
  refine a_l1 rfl rfl rfl ?_
  refine a_iastv (k := 1233 + 2 * n) rfl (n := 2033) rfl (inI_nI (by omega) (by omega)) (nI_clamp (by omega)) ?_
  refine a_l0 rfl rfl rfl ?_
  refine a_getq rfl gfX12_13_12 rfl (rfl) ?_
  refine a_s rfl rfl ?_
  refine a_s rfl rfl ?_
  refine a_l0 rfl rfl rfl ?_
  refine a_geti rfl gfX12_168_12 rfl ?_
  refine a_top (y := nI n) ((congrFun (up2_row (by decide)) 16).trans hn) ?_
  refine a_s rfl rfl ?_
  refine a_top (y := nI (2 * n)) (nI_mul 2 n) ?_
  refine a_s rfl rfl ?_
  refine a_top (y := nI (1233 + 2 * n)) (nI_addl 1233 (2 * n)) ?_
  refine a_s rfl rfl ?_
  refine a_s rfl rfl ?_
  refine a_top (y := nI (1233 + 2 * n + 1)) ((nI_succ _).symm) ?_
  refine a_l2 rfl rfl rfl ?_
  refine a_iastv (k := 1233 + 2 * n + 1) rfl (n := 2033) rfl (inI_nI (by omega) (by omega)) (nI_clamp (by omega)) ?_
  refine a_l0 rfl rfl rfl ?_
  refine a_s rfl rfl ?_
  refine a_geti rfl gfX12_168_12 rfl ?_
  refine a_top (y := nI n) (((congrFun (up2_row (by decide)) 16).trans (congrFun (up2_row (by decide)) 16)).trans hn) ?_
  refine a_s rfl rfl ?_
  refine a_s rfl rfl ?_
  refine a_top (y := nI (n + 1)) ((nI_succ _).symm) ?_
  refine a_puti rfl pfX12_168_12 rfl ?_
  exact a_vret rfl rfl ⟨rfl, rfl⟩
theorem r_X12_wordOfPart {b : Nat} (hw : WdS S) (h12 : I 420 12 = nI b) (hbp : b ≤ p) (hq : Pp e p I) : Sp S m_X12_wordOfPart 17 0 0 [.ref 420] (hp I L w1 w2 t) (fun v h' => h' = hp I L w1 w2 t ∧ ∃ x, v = some (.int x) ∧ (x = -1 ∨ (b < p ∧ ∃ k, k ≤ 6 ∧ x = nI k))) nX := by
  refine Sp_of ok_X12_wordOfPart rfl rfl ?_
  show AW S m_X12_wordOfPart 17 _ _ 0 0 0 [some (.ref 420)] [] (hp I L w1 w2 t)
  refine a_l0 rfl rfl rfl ?_
  refine a_ldcs (q := 130 + 3) rfl (hw.ld (i := 3) (by decide)) ?_
  refine a_gV rfl lX12_109 mo_X12_isWord (r_X12_isWord (k := 3) hw (by decide) h12 hbp hq) rfl rfl rfl ⟨12, _, rfl, rfl, rfl⟩ rfl (fun v' h' hv => ?_)
  obtain ⟨rfl, z, rfl, hz⟩ := hv
  refine a_if_eq rfl (fun _ => ?_) (fun cz => ?_)
  rotate_left
  · refine a_s rfl rfl ?_
    exact a_iret rfl rfl ⟨rfl, _, rfl, Or.inr ⟨hz (bI_t cz), 0, by decide, rfl⟩⟩
  refine a_l0 rfl rfl rfl ?_
  refine a_ldcs (q := 130 + 24) rfl (hw.ld (i := 24) (by decide)) ?_
  refine a_gV rfl lX12_109 mo_X12_isWord (r_X12_isWord (k := 24) hw (by decide) h12 hbp hq) rfl rfl rfl ⟨12, _, rfl, rfl, rfl⟩ rfl (fun v' h' hv => ?_)
  obtain ⟨rfl, z, rfl, hz⟩ := hv
  refine a_if_eq rfl (fun _ => ?_) (fun cz => ?_)
  rotate_left
  · refine a_s rfl rfl ?_
    exact a_iret rfl rfl ⟨rfl, _, rfl, Or.inr ⟨hz (bI_t cz), 1, by decide, rfl⟩⟩
  refine a_l0 rfl rfl rfl ?_
  refine a_ldcs (q := 130 + 6) rfl (hw.ld (i := 6) (by decide)) ?_
  refine a_gV rfl lX12_109 mo_X12_isWord (r_X12_isWord (k := 6) hw (by decide) h12 hbp hq) rfl rfl rfl ⟨12, _, rfl, rfl, rfl⟩ rfl (fun v' h' hv => ?_)
  obtain ⟨rfl, z, rfl, hz⟩ := hv
  refine a_if_eq rfl (fun _ => ?_) (fun cz => ?_)
  rotate_left
  · refine a_s rfl rfl ?_
    exact a_iret rfl rfl ⟨rfl, _, rfl, Or.inr ⟨hz (bI_t cz), 2, by decide, rfl⟩⟩
  refine a_l0 rfl rfl rfl ?_
  refine a_ldcs (q := 130 + 7) rfl (hw.ld (i := 7) (by decide)) ?_
  refine a_gV rfl lX12_109 mo_X12_isWord (r_X12_isWord (k := 7) hw (by decide) h12 hbp hq) rfl rfl rfl ⟨12, _, rfl, rfl, rfl⟩ rfl (fun v' h' hv => ?_)
  obtain ⟨rfl, z, rfl, hz⟩ := hv
  refine a_if_eq rfl (fun _ => ?_) (fun cz => ?_)
  rotate_left
  · refine a_s rfl rfl ?_
    exact a_iret rfl rfl ⟨rfl, _, rfl, Or.inr ⟨hz (bI_t cz), 3, by decide, rfl⟩⟩
  refine a_l0 rfl rfl rfl ?_
  refine a_ldcs (q := 130 + 25) rfl (hw.ld (i := 25) (by decide)) ?_
  refine a_gV rfl lX12_109 mo_X12_isWord (r_X12_isWord (k := 25) hw (by decide) h12 hbp hq) rfl rfl rfl ⟨12, _, rfl, rfl, rfl⟩ rfl (fun v' h' hv => ?_)
  obtain ⟨rfl, z, rfl, hz⟩ := hv
  refine a_if_eq rfl (fun _ => ?_) (fun cz => ?_)
  rotate_left
  · refine a_s rfl rfl ?_
    exact a_iret rfl rfl ⟨rfl, _, rfl, Or.inr ⟨hz (bI_t cz), 4, by decide, rfl⟩⟩
  refine a_l0 rfl rfl rfl ?_
  refine a_ldcs (q := 130 + 26) rfl (hw.ld (i := 26) (by decide)) ?_
  refine a_gV rfl lX12_109 mo_X12_isWord (r_X12_isWord (k := 26) hw (by decide) h12 hbp hq) rfl rfl rfl ⟨12, _, rfl, rfl, rfl⟩ rfl (fun v' h' hv => ?_)
  obtain ⟨rfl, z, rfl, hz⟩ := hv
  refine a_if_eq rfl (fun _ => ?_) (fun cz => ?_)
  rotate_left
  · refine a_s rfl rfl ?_
    exact a_iret rfl rfl ⟨rfl, _, rfl, Or.inr ⟨hz (bI_t cz), 5, by decide, rfl⟩⟩
  refine a_l0 rfl rfl rfl ?_
  refine a_ldcs (q := 130 + 13) rfl (hw.ld (i := 13) (by decide)) ?_
  refine a_gV rfl lX12_109 mo_X12_isWord (r_X12_isWord (k := 13) hw (by decide) h12 hbp hq) rfl rfl rfl ⟨12, _, rfl, rfl, rfl⟩ rfl (fun v' h' hv => ?_)
  obtain ⟨rfl, z, rfl, hz⟩ := hv
  refine a_if_eq rfl (fun _ => ?_) (fun cz => ?_)
  rotate_left
  · refine a_s rfl rfl ?_
    refine a_goto rfl ?_
    exact a_iret rfl rfl ⟨rfl, _, rfl, Or.inr ⟨hz (bI_t cz), 6, by decide, rfl⟩⟩
  · refine a_s rfl rfl ?_
    exact a_iret rfl rfl ⟨rfl, _, rfl, Or.inl rfl⟩
theorem trN_num : ∀ m, m < 1000 → tyS (trN 9 m) s = some (false :: s) := by
  intro m hm
  show tyS m s = _
  unfold tyS
  rw [if_pos (by omega)]
theorem trN_fac : ∀ k, k ≤ 6 → tyS (trN k 0) s = some (false :: s) := by
  intro k hk
  have : trN k 0 = 1000 + k := by
    unfold trN
    rw [if_neg (by omega), if_pos (by omega)]
  rw [this]
  unfold tyS
  rw [if_pos (by omega)]
theorem r_X12_readPart (hw : WdS S) (hc : 1 ≤ c) (hl : s.length + 1 ≤ 24) (h : Dq e p a n s c I) : Sp S m_X12_readPart 18 0 0 [.ref 420] (hp I L w1 w2 t) (QC e p n a (false :: s) c I L w1 w2 t) nX := by
  refine Sp_of ok_X12_readPart rfl rfl ?_
  show AW S m_X12_readPart 18 _ _ 0 0 0 [some (.ref 420), none, none] [] (hp I L w1 w2 t)
  have bad : ∀ {z : Bool} {p' : Nat} {J : Nat → Nat → Int32}, Cs e p n a s c I J p' n → AW S m_X12_readPart 18 (QC e p n a (false :: s) c I L w1 w2 t) nX 0 0 40 [some (.ref 420), some (.int (bI z)), none] [.int (-1)] (hp J L w1 w2 t) := by
    intro z p' J h2
    have hle := Dq.le (Cs.dq h2)
    have fin : ∀ {x y : Int32}, AW S m_X12_readPart 18 (QC e p n a (false :: s) c I L w1 w2 t) nX 0 0 61 [some (.ref 420), some (.int (bI z)), some (.int (-1))] [.int y, .int x, .ref 420] (hp J L w1 w2 t) := by
      intro x y
      refine a_eV0 rfl lX12_180 mo_X12_emits (r_X12_emits (Dq.st (Cs.dq h2)) (by omega)) rfl rfl rfl ⟨12, _, rfl, rfl, rfl⟩ rfl ?_
      refine a_l2 rfl rfl rfl ?_
      refine a_if_lt rfl (fun _ => ?_) (fun c => absurd (by decide) c)
      refine a_s rfl rfl ?_
      exact a_zret rfl rfl rfl (QC.fc h2 emH_fm (Nat.le_refl _) (Pp.em (Cs.pp h2)))
    refine a_s2 rfl rfl rfl rfl rfl rfl ?_
    refine a_l0 rfl rfl rfl ?_
    refine a_l1 rfl rfl rfl ?_
    cases z with
    | false =>
      refine a_if_eq rfl (fun _ => ?_) (fun c => absurd rfl c)
      refine a_l2 rfl rfl rfl ?_
      refine a_l1 rfl rfl rfl ?_
      refine a_if_eq rfl (fun _ => ?_) (fun c => absurd rfl c)
      refine a_s rfl rfl ?_
      exact fin
    | true =>
      refine a_if_eq rfl (fun c => absurd c (by decide)) (fun _ => ?_)
      refine a_s rfl rfl ?_
      refine a_goto rfl ?_
      refine a_l1 rfl rfl rfl ?_
      refine a_if_eq rfl (fun c => absurd c (by decide)) (fun _ => ?_)
      refine a_l2 rfl rfl rfl ?_
      refine a_goto rfl ?_
      exact fin
  have good : ∀ {p' k m : Nat} {x : Int32} {J : Nat → Nat → Int32}, Cs e p n a s (c + 1) I J p' n → k ≤ 15 → m < 1000 → tyS (trN k m) s = some (false :: s) → ¬ x < 0 → AW S m_X12_readPart 18 (QC e p n a (false :: s) c I L w1 w2 t) nX 0 0 61 [some (.ref 420), none, some (.int x)] [.int (nI m), .int (nI k), .ref 420] (hp J L w1 w2 t) := by
    intro p' k m x J h2 hk hm ht hx
    have hle := Dq.le (Cs.dq h2)
    refine a_eV0 rfl lX12_180 mo_X12_emits (r_X12_emits (Dq.st (Cs.dq h2)) (by omega)) rfl rfl rfl ⟨12, _, rfl, rfl, rfl⟩ rfl ?_
    refine a_l2 rfl rfl rfl ?_
    refine a_if_lt rfl (fun c => absurd c hx) (fun _ => ?_)
    refine a_s rfl rfl ?_
    refine a_goto rfl ?_
    exact a_zret rfl rfl rfl (QC.yes (Cs.em h2 hk hm ht hl))
  refine a_l0 rfl rfl rfl ?_
  refine a_gV rfl lX12_106 mo_X12_letters (r_X12_letters (Dq.pp h)) rfl rfl rfl ⟨12, _, rfl, rfl, rfl⟩ rfl (fun v' h' hv => ?_)
  obtain ⟨rfl, J1, b1, p1, rfl, h1⟩ := hv
  have C1 := Cs.rd (Cs.rf h) h1
  refine a_l0 rfl rfl rfl ?_
  refine a_geti rfl gfX12_81_12 rfl ?_
  refine a_top (y := nI p1) (Pp.pu (Rd.pp h1)) ?_
  refine a_l0 rfl rfl rfl ?_
  refine a_geti rfl gfX12_91_12 rfl ?_
  refine a_top (y := nI b1) (Rd.be h1) ?_
  refine a_ic_ne rfl (fun _ => ?_) (fun _ => ?_)
  · refine a_s rfl rfl ?_
    refine a_s1 rfl rfl rfl rfl rfl rfl ?_
    refine a_l1 rfl rfl rfl ?_
    refine a_if_eq rfl (fun _ => ?_) (fun c => absurd rfl c)
    refine a_l0 rfl rfl rfl ?_
    refine a_gV rfl lX12_177 mo_X12_wordOfPart (r_X12_wordOfPart hw (Rd.be h1) (Rd.bp h1) (Rd.pp h1)) rfl rfl rfl ⟨12, _, rfl, rfl, rfl⟩ rfl (fun v' h' hv => ?_)
    obtain ⟨rfl, x, rfl, hx⟩ := hv
    rcases hx with rfl | ⟨hlt, k, hk, rfl⟩
    · exact bad (z := false) C1
    · refine a_s2 rfl rfl rfl rfl rfl rfl ?_
      refine a_l0 rfl rfl rfl ?_
      refine a_l1 rfl rfl rfl ?_
      refine a_if_eq rfl (fun _ => ?_) (fun c => absurd rfl c)
      refine a_l2 rfl rfl rfl ?_
      refine a_l1 rfl rfl rfl ?_
      refine a_if_eq rfl (fun _ => ?_) (fun c => absurd rfl c)
      refine a_s rfl rfl ?_
      exact a_less (good (m := 0) (Cs.rd1 (Cs.rf h) h1 hlt) (by omega) (by decide) (trN_fac k hk) (nI_pos (by omega))) ⟨rfl, rfl, trivial⟩
  · refine a_s rfl rfl ?_
    refine a_goto rfl ?_
    refine a_s1 rfl rfl rfl rfl rfl rfl ?_
    refine a_l1 rfl rfl rfl ?_
    refine a_if_eq rfl (fun c => absurd c (by decide)) (fun _ => ?_)
    refine a_l0 rfl rfl rfl ?_
    refine a_s rfl rfl ?_
    refine a_s rfl rfl ?_
    refine a_gV rfl lX12_113 mo_X12_number (r_X12_number (Rd.pp h1)) rfl rfl rfl ⟨12, _, rfl, rfl, rfl⟩ rfl (fun v' h' hv => ?_)
    obtain ⟨x, b2, p2, J2, rfl, rfl, h2, hx⟩ := hv
    refine a_goto rfl ?_
    rcases hx with rfl | ⟨hlt, hx0, hx9⟩
    · exact bad (z := true) (Cs.rd C1 h2)
    · obtain ⟨m, -, hm, rfl⟩ := inB_nI (a := 0) (b := 999) (by decide) (le0 hx0 hx9)
      refine a_s2 rfl rfl rfl rfl rfl rfl ?_
      refine a_l0 rfl rfl rfl ?_
      refine a_l1 rfl rfl rfl ?_
      refine a_if_eq rfl (fun c => absurd c (by decide)) (fun _ => ?_)
      refine a_s rfl rfl ?_
      refine a_goto rfl ?_
      refine a_l1 rfl rfl rfl ?_
      refine a_if_eq rfl (fun c => absurd c (by decide)) (fun _ => ?_)
      refine a_l2 rfl rfl rfl ?_
      refine a_goto rfl ?_
      exact a_less (good (k := 9) (Cs.rd1 C1 h2 hlt) (by decide) (by omega) (trN_num m (by omega)) (nI_pos (by omega))) ⟨rfl, rfl, trivial⟩
theorem r_X12_readSum (hw : WdS S) (hc : 1 ≤ c) (hl : s.length + 2 ≤ 24) (h : Dq e p a n s c I) : Sp S m_X12_readSum 19 0 0 [.ref 420] (hp I L w1 w2 t) (QC e p n a (false :: s) c I L w1 w2 t) nX := by
  refine Sp_of ok_X12_readSum rfl rfl ?_
  show AW S m_X12_readSum 19 _ _ 0 0 0 [some (.ref 420)] [] (hp I L w1 w2 t)
  refine a_l0 rfl rfl rfl ?_
  refine a_gV rfl lX12_184 mo_X12_readPart (r_X12_readPart hw hc (by omega) h) rfl rfl rfl ⟨12, _, rfl, rfl, rfl⟩ rfl (fun v' h' hv => ?_)
  obtain ⟨z, J1, p1, n1, rfl, rfl, f1, hp1, hq1, hz1⟩ := hv
  refine a_if_ne rfl (fun cz => ?_) (fun _ => ?_)
  rotate_left
  · refine a_s rfl rfl ?_
    exact a_zret rfl rfl rfl (QC.no f1 hp1 hq1)
  have C1 := Cs.st (Cs.rf h) f1 hp1 (hz1 (bI_t cz))
  refine a_inv (n := e - p1) (fun m ls h => ls = [some (.ref 420)] ∧ ∃ J p' n', h = hp J L w1 w2 t ∧ Cs e p n a (false :: s) c I J p' n' ∧ m = e - p') ⟨rfl, J1, p1, n1, rfl, C1, rfl⟩ ?_
  rintro m _ _ ⟨rfl, J, p', n', rfl, C, hm⟩ ih
  refine a_l0 rfl rfl rfl ?_
  refine a_s rfl rfl ?_
  refine a_gV rfl lX12_187 mo_X12_sign (r_X12_sign (Cs.pp C)) rfl rfl rfl ⟨12, _, rfl, rfl, rfl⟩ rfl (fun v' h' hv => ?_)
  obtain ⟨z2, b2, p2, J2, rfl, rfl, h2, hz2⟩ := hv
  refine a_if_eq rfl (fun _ => ?_) (fun cz2 => ?_)
  · refine a_s rfl rfl ?_
    exact a_zret rfl rfl rfl (QC.yes (Cs.rd C h2))
  have hlt := hz2 (bI_t cz2)
  have C2 := Cs.rd1 C h2 hlt
  have q2 := Rd.pb h2
  have q3 := Pp.le (Cs.pp C2)
  refine a_l0 rfl rfl rfl ?_
  refine a_gV rfl lX12_184 mo_X12_readPart (r_X12_readPart hw (by omega) (by simp only [List.length_cons]; omega) (Cs.dq C2)) rfl rfl rfl ⟨12, _, rfl, rfl, rfl⟩ rfl (fun v' h' hv => ?_)
  obtain ⟨z3, J3, p3, n3, rfl, rfl, f3, hp3, hq3, hz3⟩ := hv
  refine a_if_ne rfl (fun cz3 => ?_) (fun _ => ?_)
  rotate_left
  · refine a_s rfl rfl ?_
    exact a_zret rfl rfl rfl (QC.fc C2 f3 hp3 hq3)
  have C3 := Cs.st C2 f3 hp3 (hz3 (bI_t cz3))
  have hle := Dq.le (Cs.dq C3)
  refine a_l0 rfl rfl rfl ?_
  refine a_s rfl rfl ?_
  refine a_s rfl rfl ?_
  refine a_eV0 rfl lX12_180 mo_X12_emits (r_X12_emits (Dq.st (Cs.dq C3)) (by omega)) rfl rfl rfl ⟨12, _, rfl, rfl, rfl⟩ rfl ?_
  refine a_goto rfl ?_
  exact ih (e - p3) _ _ (by omega) ⟨rfl, _, p3, n3 + 1, rfl, Cs.em (k := 10) (m := 0) C3 (by decide) (by decide) rfl (by simp only [List.length_cons]; omega), rfl⟩
theorem r_X12_readTag (hw : WdS S) (hl : s.length + 1 ≤ 24) (h : Dq e p a n s c I) : Sp S m_X12_readTag 17 0 0 [.ref 420] (hp I L w1 w2 t) (fun v h' => ∃ z J p' n', v = some (.int (bI z)) ∧ h' = hp J L w1 w2 t ∧ (z = true → Cs e p n a (true :: s) c I J p' n') ∧ (z = false → Cs e p n a s c I J p' n)) nX := by
  refine Sp_of ok_X12_readTag rfl rfl ?_
  show AW S m_X12_readTag 17 _ _ 0 0 0 [some (.ref 420), none] [] (hp I L w1 w2 t)
  refine a_l0 rfl rfl rfl ?_
  refine a_gV rfl lX12_106 mo_X12_letters (r_X12_letters (Dq.pp h)) rfl rfl rfl ⟨12, _, rfl, rfl, rfl⟩ rfl (fun v' h' hv => ?_)
  obtain ⟨rfl, J1, b1, p1, rfl, h1⟩ := hv
  have good : ∀ k, k = 7 ∨ k = 8 → b1 < p1 → AW S m_X12_readTag 17 (fun v h' => ∃ z J p' n', v = some (.int (bI z)) ∧ h' = hp J L w1 w2 t ∧ (z = true → Cs e p n a (true :: s) c I J p' n') ∧ (z = false → Cs e p n a s c I J p' n)) nX 0 0 33 [some (.ref 420), none] [.int (nI k)] (hp J1 L w1 w2 t) := by
    intro k hk hlt
    have C1 := Cs.rd1 (Cs.rf h) h1 hlt
    have hle := Dq.le (Cs.dq C1)
    refine a_s1 rfl rfl rfl rfl rfl rfl ?_
    refine a_l1 rfl rfl rfl ?_
    refine a_if_lt rfl (fun c => absurd c (nI_pos (by omega))) (fun _ => ?_)
    refine a_l0 rfl rfl rfl ?_
    refine a_l1 rfl rfl rfl ?_
    refine a_s rfl rfl ?_
    refine a_eV0 rfl lX12_180 mo_X12_emits (r_X12_emits (Dq.st (Cs.dq C1)) (by omega)) rfl rfl rfl ⟨12, _, rfl, rfl, rfl⟩ rfl ?_
    refine a_goto rfl ?_
    refine a_l1 rfl rfl rfl ?_
    refine a_if_lt rfl (fun c => absurd c (nI_pos (by omega))) (fun _ => ?_)
    refine a_s rfl rfl ?_
    refine a_goto rfl ?_
    have ht : tyS (trN k 0) s = some (true :: s) := by
      rcases hk with rfl | rfl <;> rfl
    exact a_zret rfl rfl rfl ⟨true, _, p1, n + 1, rfl, rfl, fun _ => Cs.em (m := 0) C1 (by omega) (by decide) ht hl, fun z => by cases z⟩
  refine a_l0 rfl rfl rfl ?_
  refine a_ldcs (q := 130 + 22) rfl (hw.ld (i := 22) (by decide)) ?_
  refine a_gV rfl lX12_109 mo_X12_isWord (r_X12_isWord (k := 22) hw (by decide) (Rd.be h1) (Rd.bp h1) (Rd.pp h1)) rfl rfl rfl ⟨12, _, rfl, rfl, rfl⟩ rfl (fun v' h' hv => ?_)
  obtain ⟨rfl, z, rfl, hz⟩ := hv
  refine a_if_eq rfl (fun _ => ?_) (fun cz => ?_)
  rotate_left
  · refine a_s rfl rfl ?_
    refine a_goto rfl ?_
    exact good 7 (Or.inl rfl) (hz (bI_t cz))
  refine a_l0 rfl rfl rfl ?_
  refine a_ldcs (q := 130 + 23) rfl (hw.ld (i := 23) (by decide)) ?_
  refine a_gV rfl lX12_109 mo_X12_isWord (r_X12_isWord (k := 23) hw (by decide) (Rd.be h1) (Rd.bp h1) (Rd.pp h1)) rfl rfl rfl ⟨12, _, rfl, rfl, rfl⟩ rfl (fun v' h' hv => ?_)
  obtain ⟨rfl, z2, rfl, hz2⟩ := hv
  refine a_if_eq rfl (fun _ => ?_) (fun cz => ?_)
  rotate_left
  · refine a_s rfl rfl ?_
    refine a_goto rfl ?_
    exact good 8 (Or.inr rfl) (hz2 (bI_t cz))
  refine a_s rfl rfl ?_
  refine a_s1 rfl rfl rfl rfl rfl rfl ?_
  refine a_l1 rfl rfl rfl ?_
  refine a_if_lt rfl (fun _ => ?_) (fun c => absurd (by decide) c)
  refine a_l0 rfl rfl rfl ?_
  refine a_l0 rfl rfl rfl ?_
  refine a_geti rfl gfX12_91_12 rfl ?_
  refine a_top (y := nI b1) (Rd.be h1) ?_
  refine a_puti rfl pfX12_81_12 rfl ?_
  refine a_l1 rfl rfl rfl ?_
  refine a_if_lt rfl (fun _ => ?_) (fun c => absurd (by decide) c)
  refine a_s rfl rfl ?_
  exact a_zret rfl rfl rfl ⟨false, _, b1, n, rfl, rfl, (fun z => by cases z), fun _ => Cs.rd (Cs.rf h) (Rd.rs h1)⟩
end T71
