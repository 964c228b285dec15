/-! ===== a day's work: the reference ===== -/
section T79x
variable {S : aS} {I : Nat → Nat → Int32} {L : Nat → Nat → Int64} {w1 w2 t : Nat} {d p : Nat} {W : Nat → Int32} {taken had : Int32}
set_option maxRecDepth 100000
/-- who has which tool -/
def HHd (H : Nat → Int32) (taken had : Int32) (p : Nat) : Prop := ∀ k, k < 6 → (hasF taken (nI k) = true → ∃ q, q < p ∧ H k = nI q) ∧ (hasF taken (nI k) = false → hasF had (nI k) = true → H k = nI p) ∧ (hasF taken (nI k) = false → hasF had (nI k) = false → H k = -1)
theorem hasF_no {s : Int32} : hasF s (-1) = false := by
  unfold hasF bitF
  rw [if_pos (by decide)]
  refine decide_eq_false fun z => z (b_ext fun i hi => ?_)
  rw [b_and, b_0, Bool.and_false]
theorem bitF_no : bitF (-1) = 0 := if_pos (by decide)
theorem or_0 {s : Int32} : s ||| 0 = s := b_ext fun i hi => by rw [b_or, b_0, Bool.or_false]
theorem h_hasTool (h421 : I 421 = W) (hd : d < 12) (hH : HHd (I 429) taken had p) (ht : W (23 + 6 * d + 3) = -1 ∨ Nb (W (23 + 6 * d + 3)) 5) (h6 : p < 6) : SpE S m_X12_hasTool 14 [.ref 420, .int (nI d), .int (nI p)] (hp I L w1 w2 t) (some (.int (bI (!hasF taken (W (23 + 6 * d + 3)))))) (hp I L w1 w2 t) := by
  refine SpE_of ok_X12_hasTool rfl rfl ?_
  show AW S m_X12_hasTool 14 _ _ 0 0 0 [some (.ref 420), some (.int (nI d)), some (.int (nI p)), none] [] (hp I L w1 w2 t)
  refine a_l0 rfl rfl rfl ?_
  refine a_l1 rfl rfl rfl ?_
  refine a_s rfl rfl ?_
  refine a_eV1 rfl lX12_63 mo_X12_of (sp_X12_of (d := d) (k := 3) hd (by decide)) rfl rfl rfl ⟨12, _, rfl, rfl, rfl⟩ rfl ?_
  refine a_top (y := W (23 + 6 * d + 3)) (congrFun h421 _) ?_
  refine a_s3 rfl rfl rfl rfl rfl rfl ?_
  refine a_l3 rfl rfl rfl ?_
  refine a_s rfl rfl ?_
  refine a_ic_eq rfl (fun c => ?_) (fun c => ?_)
  · rw [c, hasF_no]
    refine a_s rfl rfl ?_
    refine a_goto rfl ?_
    exact a_zret rfl rfl rfl ⟨rfl, rfl⟩
  obtain ⟨k, hk, ek⟩ := ht.resolve_left c
  obtain ⟨g1, g2, g3⟩ := hH k (by omega)
  rw [ek]
  refine a_l0 rfl rfl rfl ?_
  refine a_getq rfl gfX12_42_12 rfl (rfl) ?_
  refine a_l3 rfl rfl rfl ?_
  refine a_ialdv (v := I 429 k) rfl (n := 6) rfl (inI_nI (by omega) (by decide)) (by rw [nI_clamp (by omega)]) ?_
  refine a_s rfl rfl ?_
  cases ht : hasF taken (nI k) with
  | true =>
    obtain ⟨q, hq, eq⟩ := g1 ht
    refine a_ic_eq rfl (fun c => ?_) (fun _ => ?_)
    · exfalso
      rw [eq] at c
      have := nI_pos (show q < 2 ^ 31 by omega)
      rw [c] at this
      exact this (by decide)
    refine a_l0 rfl rfl rfl ?_
    refine a_getq rfl gfX12_42_12 rfl (rfl) ?_
    refine a_l3 rfl rfl rfl ?_
    refine a_ialdv (v := I 429 k) rfl (n := 6) rfl (inI_nI (by omega) (by decide)) (by rw [nI_clamp (by omega)]) ?_
    refine a_l2 rfl rfl rfl ?_
    refine a_ic_ne rfl (fun _ => ?_) (fun c => ?_)
    · refine a_s rfl rfl ?_
      exact a_zret rfl rfl rfl ⟨rfl, rfl⟩
    · exfalso
      rw [eq] at c
      have := nI_inj (by omega) (by omega) c
      omega
  | false =>
    cases hh : hasF had (nI k) with
    | false =>
      refine a_ic_eq rfl (fun _ => ?_) (fun c => absurd (g3 ht hh) c)
      refine a_s rfl rfl ?_
      refine a_goto rfl ?_
      exact a_zret rfl rfl rfl ⟨rfl, rfl⟩
    | true =>
      have e := g2 ht hh
      refine a_ic_eq rfl (fun _ => ?_) (fun _ => ?_)
      · refine a_s rfl rfl ?_
        refine a_goto rfl ?_
        exact a_zret rfl rfl rfl ⟨rfl, rfl⟩
      refine a_l0 rfl rfl rfl ?_
      refine a_getq rfl gfX12_42_12 rfl (rfl) ?_
      refine a_l3 rfl rfl rfl ?_
      refine a_ialdv (v := I 429 k) rfl (n := 6) rfl (inI_nI (by omega) (by decide)) (by rw [nI_clamp (by omega)]) ?_
      refine a_l2 rfl rfl rfl ?_
      refine a_ic_ne rfl (fun c => absurd e c) (fun _ => ?_)
      refine a_s rfl rfl ?_
      refine a_goto rfl ?_
      exact a_zret rfl rfl rfl ⟨rfl, rfl⟩
theorem ud_same {k : Nat} : ud W k (W k) = W := by
  funext j
  by_cases c : j = k
  · rw [c, ud_at]
  · rw [ud_ne c]
theorem HHd.tk {H : Nat → Int32} {k : Nat} (h : HHd H taken had p) (hk : k < 6) (ht : hasF taken (nI k) = false) : HHd (fun j => if j = k then nI p else H j) taken (had ||| bitF (nI k)) p := fun j hj => by
  obtain ⟨g1, g2, g3⟩ := h j hj
  rw [hasF_or (show j < 31 by omega), hasF_bit (show k < 31 by omega) (show j < 31 by omega)]
  by_cases c : j = k
  · subst c
    refine ⟨fun z => ?_, fun _ _ => if_pos rfl, fun _ z => ?_⟩
    · rw [ht] at z
      cases z
    · rw [decide_eq_true rfl, Bool.or_true] at z
      cases z
  · rw [decide_eq_false c, Bool.or_false]
    refine ⟨fun z => ?_, fun z1 z2 => ?_, fun z1 z2 => ?_⟩
    · obtain ⟨q, q1, q2⟩ := g1 z
      exact ⟨q, q1, (if_neg c).trans q2⟩
    · exact (if_neg c).trans (g2 z1 z2)
    · exact (if_neg c).trans (g3 z1 z2)
theorem h_works (hG : Rg (I 421)) (hq : p < pn (I 421)) (hH : HHd (I 429) taken 0 p) : Sp S m_X12_works 18 0 0 [.ref 420, .int (nI p)] (hp I L w1 w2 t) (fun v h' => ∃ x, v = some (.int x) ∧ ∃ J, h' = hp J L w1 w2 t ∧ (∀ q, q ≠ 421 → q ≠ 429 → J q = I q) ∧ J 421 = (wdF (nI p) taken (I 421, I 421 (11 + 2 * p + 1), 0) (dn (I 421))).1 ∧ HHd (J 429) taken (wdF (nI p) taken (I 421, I 421 (11 + 2 * p + 1), 0) (dn (I 421))).2.2 p) nX := by
  generalize hW : I 421 = W at hG hq ⊢
  have h12 := hG.1.2.1
  have h6 := hG.1.1
  have ok0 : WdOk W (W, W (11 + 2 * p + 1), 0) := ⟨hG, rfl, rfl, (hG.2.2.1 p hq).2, fun _ _ => rfl⟩
  refine Sp_of ok_X12_works rfl rfl ?_
  show AW S m_X12_works 18 _ _ 0 0 0 [some (.ref 420), some (.int (nI p)), none, none, none, none] [] (hp I L w1 w2 t)
  refine a_l0 rfl rfl rfl ?_
  refine a_l1 rfl rfl rfl ?_
  refine a_s rfl rfl ?_
  refine a_eV1 rfl lX12_252 mo_X12_ofPerson (sp_X12_ofPerson (d := p) (k := 1) (by omega) (by decide)) rfl rfl rfl ⟨12, _, rfl, rfl, rfl⟩ rfl ?_
  refine a_top (y := W (11 + 2 * p + 1)) (congrFun hW _) ?_
  refine a_s2 rfl rfl rfl rfl rfl rfl ?_
  refine a_s rfl rfl ?_
  refine a_s3 rfl rfl rfl rfl rfl rfl ?_
  refine a_s rfl rfl ?_
  refine a_s4 rfl rfl rfl rfl rfl rfl ?_
  generalize hs0 : ((W, W (11 + 2 * p + 1), 0) : WdT) = s0 at ok0 ⊢
  refine a_inv (n := dn W) (fun m ls h => ∃ j y J, ls = [some (.ref 420), some (.int (nI p)), some (.int (wdF (nI p) taken s0 j).2.1), some (.int y), some (.int (nI j)), none] ∧ h = hp J L w1 w2 t ∧ j ≤ dn W ∧ m = dn W - j ∧ J 421 = (wdF (nI p) taken s0 j).1 ∧ HHd (J 429) taken (wdF (nI p) taken s0 j).2.2 p ∧ ∀ q, q ≠ 421 → q ≠ 429 → J q = I q) ⟨0, 0, I, by rw [← hs0]; rfl, rfl, Nat.zero_le _, rfl, by rw [← hs0]; exact hW, by rw [← hs0]; exact hH, fun _ _ _ => rfl⟩ ?_
  rintro m _ _ ⟨j, y, J, rfl, rfl, hj, hm, eJ, hHJ, hf⟩ ih
  have okj := ok0.run (p := nI p) (taken := taken) j hj
  refine a_l4 rfl rfl rfl ?_
  refine a_l0 rfl rfl rfl ?_
  refine a_eV1 rfl lX12_74 mo_X12_duties sp_X12_duties rfl rfl rfl ⟨12, _, rfl, rfl, rfl⟩ rfl ?_
  refine a_top (y := nI (dn W)) (by rw [eJ, okj.1.1.2.2.2, okj.2.2.1]) ?_
  refine a_ic_ge rfl (fun c => ?_) (fun c => ?_)
  · have hge := nI_ge_of c (by omega) (by omega)
    obtain rfl : j = dn W := by omega
    refine a_l3 rfl rfl rfl ?_
    exact a_iret rfl rfl ⟨_, rfl, J, rfl, hf, eJ, hHJ⟩
  have hjn := nI_lt_of c (by omega) (by omega)
  have es : wdF (nI p) taken s0 (j + 1) = wdS (nI p) taken (wdF (nI p) taken s0 j) j := rfl
  -- the loop goes on
  have on : ∀ (K : Nat → Nat → Int32) (v : Option Value) (y : Int32), K 421 = (wdF (nI p) taken s0 (j + 1)).1 → HHd (K 429) taken (wdF (nI p) taken s0 (j + 1)).2.2 p → (∀ q, q ≠ 421 → q ≠ 429 → K q = I q) → AW S m_X12_works 18 (fun v h' => ∃ x, v = some (.int x) ∧ ∃ J, h' = hp J L w1 w2 t ∧ (∀ q, q ≠ 421 → q ≠ 429 → J q = I q) ∧ J 421 = (wdF (nI p) taken s0 (dn W)).1 ∧ HHd (J 429) taken (wdF (nI p) taken s0 (dn W)).2.2 p) nX 0 0 139 [some (.ref 420), some (.int (nI p)), some (.int (wdF (nI p) taken s0 (j + 1)).2.1), some (.int y), some (.int (nI j)), v] [] (hp K L w1 w2 t) := by
    intro K v y hK hHK hfK
    refine a_iv4 (y := nI (j + 1)) rfl rfl rfl ((nI_succ j).symm) ?_
    refine a_goto rfl ?_
    exact a_less (ih (dn W - (j + 1)) _ _ (by omega) ⟨j + 1, y, K, rfl, rfl, by omega, rfl, hK, hHK, hfK⟩) ⟨rfl, rfl, rfl, rfl, rfl, trivial⟩
  have skip : (¬ (0 < (wdF (nI p) taken s0 j).2.1 ∧ (wdF (nI p) taken s0 j).1 (23 + 6 * j + 0) = nI p ∧ readyR (wdF (nI p) taken s0 j).1 j = true ∧ hasF taken ((wdF (nI p) taken s0 j).1 (23 + 6 * j + 3)) = false)) → wdF (nI p) taken s0 (j + 1) = wdF (nI p) taken s0 j := fun z => if_neg z
  generalize hsj : wdF (nI p) taken s0 j = sj at eJ hHJ okj es skip on ⊢
  have gj : ∀ k, J 421 k = sj.1 k := fun k => congrFun eJ k
  have nj : dn sj.1 = dn W := okj.2.2.1
  have dj := okj.1.2.2.2 j (by omega)
  have next : ∀ v, wdF (nI p) taken s0 (j + 1) = sj → AW S m_X12_works 18 (fun v h' => ∃ x, v = some (.int x) ∧ ∃ J, h' = hp J L w1 w2 t ∧ (∀ q, q ≠ 421 → q ≠ 429 → J q = I q) ∧ J 421 = (wdF (nI p) taken s0 (dn W)).1 ∧ HHd (J 429) taken (wdF (nI p) taken s0 (dn W)).2.2 p) nX 0 0 139 [some (.ref 420), some (.int (nI p)), some (.int sj.2.1), some (.int y), some (.int (nI j)), v] [] (hp J L w1 w2 t) := fun v e => by
    have on := on J v y (by rw [e]; exact eJ) (by rw [e]; exact hHJ) hf
    rw [e] at on
    exact on
  refine a_l0 rfl rfl rfl ?_
  refine a_l4 rfl rfl rfl ?_
  refine a_s rfl rfl ?_
  refine a_eV1 rfl lX12_63 mo_X12_of (sp_X12_of (d := j) (k := 0) (by omega) (by decide)) rfl rfl rfl ⟨12, _, rfl, rfl, rfl⟩ rfl ?_
  refine a_top (y := sj.1 (23 + 6 * j + 0)) (gj _) ?_
  refine a_l1 rfl rfl rfl ?_
  refine a_ic_ne rfl (fun c3 => ?_) (fun c3 => ?_)
  · exact next _ (skip fun z => c3 z.2.1)
  refine a_l0 rfl rfl rfl ?_
  refine a_l4 rfl rfl rfl ?_
  refine a_eV1 rfl lX12_273 mo_X12_isReady (sp_X12_isReady (nd := dn W) h12 hjn (by rw [eJ, ← nj]; exact okj.1.so.l)) rfl rfl rfl ⟨12, _, rfl, rfl, rfl⟩ rfl ?_
  obtain ⟨z, hz⟩ : ∃ z, readyR sj.1 j = z := ⟨_, rfl⟩
  refine a_top (y := bI z) (by rw [eJ, ← hz]; rfl) ?_
  cases z with
  | false =>
    refine a_if_eq rfl (fun _ => ?_) (fun c => absurd rfl c)
    exact next _ (skip fun y => by rw [hz] at y; exact Bool.false_ne_true y.2.2.1)
  | true =>
  refine a_if_eq rfl (fun c => absurd c (by decide)) (fun _ => ?_)
  refine a_l0 rfl rfl rfl ?_
  refine a_l4 rfl rfl rfl ?_
  refine a_l1 rfl rfl rfl ?_
  refine a_eV1 rfl lX12_367 mo_X12_hasTool (h_hasTool (W := sj.1) (had := sj.2.2) eJ (by omega) hHJ dj.2.2.2.1 (by omega)) rfl rfl rfl ⟨12, _, rfl, rfl, rfl⟩ rfl ?_
  obtain ⟨z2, hz2⟩ : ∃ z, hasF taken (sj.1 (23 + 6 * j + 3)) = z := ⟨_, rfl⟩
  rw [hz2]
  cases z2 with
  | true =>
    refine a_if_ne rfl (fun c => absurd rfl c) (fun _ => ?_)
    refine a_goto rfl ?_
    exact next _ (skip fun y => by rw [hz2] at y; exact absurd y.2.2.2 (by decide))
  | false =>
  refine a_if_ne rfl (fun _ => ?_) (fun c => absurd c (by decide))
  obtain ⟨hh, hh9, eh⟩ := okj.2.2.2.1
  obtain ⟨-, ⟨l, hl, el, e1⟩, -, htl, -⟩ := dj
  have st0 := readyR_0 hz
  have l1 : 1 ≤ l := by
    rcases l with _ | l
    · have := e1.mpr rfl
      rw [st0] at this
      exact absurd this (by decide)
    · omega
  have em : mn sj.2.1 (sj.1 (23 + 6 * j + 1)) = nI (min hh l) := by rw [eh, el, mn_nI (by omega) (by omega)]
  refine a_l2 rfl rfl rfl ?_
  refine a_l0 rfl rfl rfl ?_
  refine a_l4 rfl rfl rfl ?_
  refine a_s rfl rfl ?_
  refine a_eV1 rfl lX12_63 mo_X12_of (sp_X12_of (d := j) (k := 1) (by omega) (by decide)) rfl rfl rfl ⟨12, _, rfl, rfl, rfl⟩ rfl ?_
  refine a_top (y := sj.1 (23 + 6 * j + 1)) (gj _) ?_
  refine a_min rfl lX12_295 mj_min rfl rfl ?_
  refine a_top (y := nI (min hh l)) (em) ?_
  refine a_s5 rfl rfl rfl rfl rfl rfl ?_
  -- behind the tool: hours, left, perhaps done
  have k96 : ∀ (K : Nat → Nat → Int32), K 421 = sj.1 → (∀ q, q ≠ 421 → q ≠ 429 → K q = I q) → (hh = 0 → HHd (K 429) taken sj.2.2 p) → (¬ hh = 0 → HHd (K 429) taken (sj.2.2 ||| bitF (sj.1 (23 + 6 * j + 3))) p) → AW S m_X12_works 18 (fun v h' => ∃ x, v = some (.int x) ∧ ∃ J, h' = hp J L w1 w2 t ∧ (∀ q, q ≠ 421 → q ≠ 429 → J q = I q) ∧ J 421 = (wdF (nI p) taken s0 (dn W)).1 ∧ HHd (J 429) taken (wdF (nI p) taken s0 (dn W)).2.2 p) nX 0 0 96 [some (.ref 420), some (.int (nI p)), some (.int sj.2.1), some (.int y), some (.int (nI j)), some (.int (nI (min hh l)))] [] (hp K L w1 w2 t) := by
    intro K eK hfK hH0 hH1
    refine a_l2 rfl rfl rfl ?_
    refine a_l5 rfl rfl rfl ?_
    refine a_s rfl rfl ?_
    refine a_top (y := nI (hh - min hh l)) (by rw [eh, nI_sub (by omega)]) ?_
    refine a_s2 rfl rfl rfl rfl rfl rfl ?_
    refine a_l0 rfl rfl rfl ?_
    refine a_getq rfl gfX12_13_12 rfl (rfl) ?_
    refine a_l4 rfl rfl rfl ?_
    refine a_s rfl rfl ?_
    refine a_eS1 rfl lX12_60 mo_X12_at (sp_X12_at (d := j) (k := 1)) rfl rfl rfl rfl ?_
    refine a_s rfl rfl ?_
    refine a_ialdv (v := nI l) rfl (n := 2033) rfl (inI_nI (by omega) (by omega)) (by rw [nI_clamp (by omega), eK, el]) ?_
    refine a_l5 rfl rfl rfl ?_
    refine a_s rfl rfl ?_
    refine a_top (y := nI (l - min hh l)) (nI_sub (by omega)) ?_
    refine a_iastv (k := 23 + 6 * j + 1) rfl (n := 2033) rfl (inI_nI (by omega) (by omega)) (nI_clamp (by omega)) ?_
    have eK1 : up2 K 421 (23 + 6 * j + 1) (nI (l - min hh l)) 421 = ud sj.1 (23 + 6 * j + 1) (nI (l - min hh l)) := by rw [up2_ud, eK]
    refine a_l0 rfl rfl rfl ?_
    refine a_l4 rfl rfl rfl ?_
    refine a_s rfl rfl ?_
    refine a_eV1 rfl lX12_63 mo_X12_of (sp_X12_of (d := j) (k := 1) (by omega) (by decide)) rfl rfl rfl ⟨12, _, rfl, rfl, rfl⟩ rfl ?_
    refine a_top (y := nI (l - min hh l)) (up2_at) ?_
    by_cases h0 : hh = 0
    · -- no hours: nothing
      have ec : ¬ (0 < sj.2.1 ∧ sj.1 (23 + 6 * j + 0) = nI p ∧ readyR sj.1 j = true ∧ hasF taken (sj.1 (23 + 6 * j + 3)) = false) := fun z => by
        have := z.1
        rw [eh, h0] at this
        exact absurd this (by decide)
      have e := skip ec
      refine a_if_le rfl (fun c => ?_) (fun _ => ?_)
      · exfalso
        have := Int32.le_iff_toInt_le.mp c
        rw [nI_toInt (by omega), show (0 : Int32).toInt = 0 from rfl] at this
        omega
      have on := on (up2 K 421 (23 + 6 * j + 1) (nI (l - min hh l))) (some (.int (nI (min hh l)))) y (by rw [eK1, e, show l - min hh l = l by omega, ← el]; exact ud_same) (by rw [e, up2_row (by decide)]; exact hH0 h0) (fun q h1 h2 => by rw [up2_row h1]; exact hfK q h1 h2)
      rw [e, eh, show nI hh = nI (hh - min hh l) by rw [h0]; rfl] at on
      refine a_goto rfl ?_
      exact on
    have ec : 0 < sj.2.1 ∧ sj.1 (23 + 6 * j + 0) = nI p ∧ readyR sj.1 j = true ∧ hasF taken (sj.1 (23 + 6 * j + 3)) = false := ⟨by
      rw [eh, Int32.lt_iff_toInt_lt, nI_toInt (by omega)]
      show (0 : Int) < _
      omega, c3, hz, hz2⟩
    have ex : sj.1 (23 + 6 * j + 1) - mn sj.2.1 (sj.1 (23 + 6 * j + 1)) = nI (l - min hh l) := by rw [em, el, nI_sub (by omega)]
    have eh2 : sj.2.1 - mn sj.2.1 (sj.1 (23 + 6 * j + 1)) = nI (hh - min hh l) := by rw [em, eh, nI_sub (by omega)]
    by_cases c0 : nI (l - min hh l) = 0
    · refine a_if_le rfl (fun _ => ?_) (fun c => absurd (by rw [c0]; exact Int32.le_refl _) c)
      have ew : wdF (nI p) taken s0 (j + 1) = (ud (ud (ud sj.1 (23 + 6 * j + 1) (nI (l - min hh l))) (23 + 6 * j + 1) 0) (23 + 6 * j + 5) 1, nI (hh - min hh l), sj.2.2 ||| bitF (sj.1 (23 + 6 * j + 3))) := by
        rw [es]
        unfold wdS
        rw [if_pos ec, ex, eh2, if_pos c0]
      rw [ew] at on
      refine a_l0 rfl rfl rfl ?_
      refine a_l4 rfl rfl rfl ?_
      refine a_eV0 rfl lX12_360 mo_X12_finishes (h_finishes (i := j) (by omega)) rfl rfl rfl ⟨12, _, rfl, rfl, rfl⟩ rfl ?_
      refine a_i3 rfl rfl rfl ?_
      exact on _ _ _ (by rw [up2_ud, up2_ud, eK1]) (by rw [up2_row (by decide), up2_row (by decide), up2_row (by decide)]; exact hH1 h0) (fun q h1 h2 => by rw [up2_row h1, up2_row h1, up2_row h1]; exact hfK q h1 h2)
    · refine a_if_le rfl (fun c => ?_) (fun _ => ?_)
      · exfalso
        have := Int32.le_iff_toInt_le.mp c
        rw [nI_toInt (by omega), show (0 : Int32).toInt = 0 from rfl] at this
        exact c0 (by rw [show l - min hh l = 0 by omega]; rfl)
      have ew : wdF (nI p) taken s0 (j + 1) = (ud sj.1 (23 + 6 * j + 1) (nI (l - min hh l)), nI (hh - min hh l), sj.2.2 ||| bitF (sj.1 (23 + 6 * j + 3))) := by
        rw [es]
        unfold wdS
        rw [if_pos ec, ex, eh2, if_neg c0]
      rw [ew] at on
      refine a_goto rfl ?_
      exact on _ _ _ eK1 (by rw [up2_row (by decide)]; exact hH1 h0) (fun q h1 h2 => by rw [up2_row h1]; exact hfK q h1 h2)
  refine a_l5 rfl rfl rfl ?_
  refine a_if_le rfl (fun c4 => ?_) (fun c4 => ?_)
  · have h0 : hh = 0 := by
      have := Int32.le_iff_toInt_le.mp c4
      rw [nI_toInt (by omega), show (0 : Int32).toInt = 0 from rfl] at this
      omega
    exact k96 J eJ hf (fun _ => hHJ) (fun z => absurd h0 z)
  have h0 : ¬ hh = 0 := fun z => c4 (by rw [z, Nat.zero_min]; decide)
  refine a_l0 rfl rfl rfl ?_
  refine a_l4 rfl rfl rfl ?_
  refine a_s rfl rfl ?_
  refine a_eV1 rfl lX12_63 mo_X12_of (sp_X12_of (d := j) (k := 3) (by omega) (by decide)) rfl rfl rfl ⟨12, _, rfl, rfl, rfl⟩ rfl ?_
  refine a_top (y := sj.1 (23 + 6 * j + 3)) (gj _) ?_
  refine a_s rfl rfl ?_
  refine a_ic_eq rfl (fun c5 => ?_) (fun c5 => ?_)
  · exact k96 J eJ hf (fun z => absurd z h0) (fun _ => by rw [c5, bitF_no, or_0]; exact hHJ)
  obtain ⟨k, hk, ek⟩ := htl.resolve_left c5
  refine a_l0 rfl rfl rfl ?_
  refine a_getq rfl gfX12_42_12 rfl (rfl) ?_
  refine a_l0 rfl rfl rfl ?_
  refine a_l4 rfl rfl rfl ?_
  refine a_s rfl rfl ?_
  refine a_eV1 rfl lX12_63 mo_X12_of (sp_X12_of (d := j) (k := 3) (by omega) (by decide)) rfl rfl rfl ⟨12, _, rfl, rfl, rfl⟩ rfl ?_
  refine a_top (y := nI k) ((gj _).trans ek) ?_
  refine a_l1 rfl rfl rfl ?_
  refine a_iastv (k := k) rfl (n := 6) rfl (inI_nI (by omega) (by omega)) (nI_clamp (by omega)) ?_
  refine k96 _ ((up2_row (by decide)).trans eJ) (fun q h1 h2 => by rw [up2_row h2]; exact hf q h1 h2) (fun z => absurd z h0) (fun _ => ?_)
  rw [up2_ud, ek]
  exact HHd.tk hHJ (by omega) (by rw [← ek]; exact hz2)
end T79x
