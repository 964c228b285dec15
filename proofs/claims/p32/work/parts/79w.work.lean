/-! ===== a day's work, on the row; the class does it so ===== -/
section T79w
variable {S : aS} {I : Nat → Nat → Int32} {L : Nat → Nat → Int64} {w1 w2 t : Nat} {n fa a d p : Nat} {W : Nat → Int32}
set_option maxRecDepth 100000
abbrev WdT : Type := (Nat → Int32) × Int32 × Int32
/-- a duty's turn: the row, hours that are left, tools had -/
def wdS (p taken : Int32) (s : WdT) (d : Nat) : WdT :=
  if 0 < s.2.1 ∧ s.1 (23 + 6 * d + 0) = p ∧ readyR s.1 d = true ∧ hasF taken (s.1 (23 + 6 * d + 3)) = false then
    (if s.1 (23 + 6 * d + 1) - mn s.2.1 (s.1 (23 + 6 * d + 1)) = 0 then ud (ud (ud s.1 (23 + 6 * d + 1) (s.1 (23 + 6 * d + 1) - mn s.2.1 (s.1 (23 + 6 * d + 1)))) (23 + 6 * d + 1) 0) (23 + 6 * d + 5) 1
     else ud s.1 (23 + 6 * d + 1) (s.1 (23 + 6 * d + 1) - mn s.2.1 (s.1 (23 + 6 * d + 1))), s.2.1 - mn s.2.1 (s.1 (23 + 6 * d + 1)), s.2.2 ||| bitF (s.1 (23 + 6 * d + 3)))
  else s
def wdF (p taken : Int32) (s : WdT) : Nat → WdT
  | 0 => s
  | n + 1 => wdS p taken (wdF p taken s n) n
theorem wdF_stop {p taken : Int32} {s : WdT} {j : Nat} (h : ¬ 0 < (wdF p taken s j).2.1) : ∀ i, wdF p taken s (j + i) = wdF p taken s j := by
  intro i
  induction i with
  | zero => rfl
  | succ i ih =>
    show wdS p taken (wdF p taken s (j + i)) (j + i) = _
    rw [ih]
    unfold wdS
    rw [if_neg (fun z => h z.1)]
/-- what holds on the way: ranges, how many, hours 0 to 9; but for left and state all as it was -/
def WdOk (W : Nat → Int32) (s : WdT) : Prop := Rg s.1 ∧ pn s.1 = pn W ∧ dn s.1 = dn W ∧ (∃ h, h ≤ 9 ∧ s.2.1 = nI h) ∧ ∀ k, (∀ d, d < 12 → k ≠ 23 + 6 * d + 1 ∧ k ≠ 23 + 6 * d + 5) → s.1 k = W k
theorem readyR_0 (h : readyR W d = true) : W (23 + 6 * d + 5) = 0 := by
  unfold readyR at h
  rw [Bool.and_eq_true] at h
  exact of_decide_eq_true h.1
theorem Rg.upd {W' : Nat → Int32} (h : Rg W) (hd : d < dn W) (f : ∀ k, k ≠ 23 + 6 * d + 1 → k ≠ 23 + 6 * d + 5 → W' k = W k) {l s : Nat} (hl : l ≤ 99) (e1 : W' (23 + 6 * d + 1) = nI l) (hs : s ≤ 2) (e5 : W' (23 + 6 * d + 5) = nI s) (e : s = 1 ↔ l = 0) : Rg W' ∧ pn W' = pn W ∧ dn W' = dn W := by
  obtain ⟨⟨h1, h2, h3, h4⟩, hf, hp, hdd⟩ := h
  have r : Rg W' := by
    refine Rg.of h1 h2 ((f 0 (by omega) (by omega)).trans h3) ((f 1 (by omega) (by omega)).trans h4) (hf.eq fun k z1 z2 => f k (by omega) (by omega)) (fun p z => (hp p z).eq (f _ (by omega) (by omega)) (f _ (by omega) (by omega))) (fun e' z => ?_)
    by_cases c : e' = d
    · subst c
      obtain ⟨a1, -, a3, a4, a5, -⟩ := hdd e' hd
      unfold RgD
      rw [f (23 + 6 * e' + 0) (by omega) (by omega), f (23 + 6 * e' + 2) (by omega) (by omega), f (23 + 6 * e' + 3) (by omega) (by omega), f (23 + 6 * e' + 4) (by omega) (by omega), e1, e5]
      refine ⟨a1, ⟨l, hl, rfl, ⟨fun z => e.mp (nI_inj (b := 1) (by omega) (by decide) z), fun z => by rw [e.mpr z]; rfl⟩⟩, a3, a4, a5, ⟨s, hs, rfl⟩⟩
    · exact (hdd e' z).eq fun k hk => f _ (by omega) (by omega)
  refine ⟨r, ?_, ?_⟩
  · unfold pn
    rw [f 0 (by omega) (by omega)]
  · unfold dn
    rw [f 1 (by omega) (by omega)]
theorem WdOk.step {s : WdT} {p taken : Int32} (h : WdOk W s) (hd : d < dn W) : WdOk W (wdS p taken s d) := by
  have hd12 := h.1.1.2.1
  unfold wdS
  by_cases c : 0 < s.2.1 ∧ s.1 (23 + 6 * d + 0) = p ∧ readyR s.1 d = true ∧ hasF taken (s.1 (23 + 6 * d + 3)) = false
  rotate_left
  · rw [if_neg c]
    exact h
  rw [if_pos c]
  obtain ⟨hG, hp, hdn, ⟨k, hk, ek⟩, hr⟩ := h
  obtain ⟨-, ⟨l, hl, el, e1⟩, -⟩ := hG.2.2.2 d (by omega)
  have st0 := readyR_0 c.2.2.1
  have l1 : 1 ≤ l := by
    rcases l with _ | l
    · have := e1.mpr rfl
      rw [st0] at this
      exact absurd this (by decide)
    · omega
  have em : mn s.2.1 (s.1 (23 + 6 * d + 1)) = nI (min k l) := by rw [ek, el, mn_nI (by omega) (by omega)]
  have ex : s.1 (23 + 6 * d + 1) - mn s.2.1 (s.1 (23 + 6 * d + 1)) = nI (l - min k l) := by rw [em, el, nI_sub (by omega)]
  have eh : s.2.1 - mn s.2.1 (s.1 (23 + 6 * d + 1)) = nI (k - min k l) := by rw [em, ek, nI_sub (by omega)]
  rw [ex, eh]
  by_cases c0 : nI (l - min k l) = 0
  · rw [if_pos c0]
    have f : ∀ j, j ≠ 23 + 6 * d + 1 → j ≠ 23 + 6 * d + 5 → ud (ud (ud s.1 (23 + 6 * d + 1) (nI (l - min k l))) (23 + 6 * d + 1) 0) (23 + 6 * d + 5) 1 j = s.1 j := fun j j1 j2 => by rw [ud_ne j2, ud_ne j1, ud_ne j1]
    obtain ⟨g1, g2, g3⟩ := Rg.upd (l := 0) (s := 1) hG (by omega) f (by decide) (by rw [ud_ne (by omega), ud_at]; rfl) (by decide) ud_at (by decide)
    refine ⟨g1, g2.trans hp, g3.trans hdn, ⟨k - min k l, by omega, rfl⟩, fun j hj => ?_⟩
    exact (f j (hj d (by omega)).1 (hj d (by omega)).2).trans (hr j hj)
  · rw [if_neg c0]
    have f : ∀ j, j ≠ 23 + 6 * d + 1 → j ≠ 23 + 6 * d + 5 → ud s.1 (23 + 6 * d + 1) (nI (l - min k l)) j = s.1 j := fun j j1 _ => ud_ne j1
    obtain ⟨g1, g2, g3⟩ := Rg.upd (l := l - min k l) (s := 0) hG (by omega) f (by omega) ud_at (by decide) (by rw [ud_ne (by omega), st0]; rfl) ⟨fun z => by omega, fun z => absurd (by rw [z]; rfl) c0⟩
    refine ⟨g1, g2.trans hp, g3.trans hdn, ⟨k - min k l, by omega, rfl⟩, fun j hj => ?_⟩
    exact (f j (hj d (by omega)).1 (hj d (by omega)).2).trans (hr j hj)
theorem WdOk.run {s : WdT} {p taken : Int32} (h : WdOk W s) : ∀ n, n ≤ dn W → WdOk W (wdF p taken s n) := by
  intro n
  induction n with
  | zero => exact fun _ => h
  | succ n ih => exact fun hn => (ih (by omega)).step (by omega)
theorem f_work (hs : stp a) (hD : Sd I a W) (hG : Rg W) {taken : Int32} (hq : p < pn W) : Sp S m_X5_work 17 0 0 [.ref a, .int (nI p), .int taken] (hp I L w1 w2 t) (fun v h' => v = some (.int (wdF (nI p) taken (W, W (11 + 2 * p + 1), 0) (dn W)).2.2) ∧ ∃ J, h' = hp J L w1 w2 t ∧ (∀ q, q ≠ a + 4 → q ≠ a + 8 → J q = I q) ∧ Sd J a (wdF (nI p) taken (W, W (11 + 2 * p + 1), 0) (dn W)).1) nX := by
  have h12 := hG.1.2.1
  have h6 := hG.1.1
  have e0 : (fun q => I (a + 2) q) p = W (11 + 2 * p + 1) := (hD.2.1 p (by omega)).2
  have fr := (hG.2.2.1 p hq).2
  have ok0 : WdOk W (W, W (11 + 2 * p + 1), 0) := ⟨hG, rfl, rfl, fr, fun _ _ => rfl⟩
  refine Sp_of ok_X5_work rfl rfl ?_
  show AW S m_X5_work 17 _ _ 0 0 0 [some (.ref a), some (.int (nI p)), some (.int taken), none, none, none, none] [] (hp I L w1 w2 t)
  refine a_s rfl rfl ?_
  refine a_s3 rfl rfl rfl rfl rfl rfl ?_
  refine a_l0 rfl rfl rfl ?_
  refine a_getq rfl gfX5_15_5 (kS0 hs) (rS2 hs) ?_
  refine a_l1 rfl rfl rfl ?_
  refine a_eSN1 rfl lX5_86 mo_X11_at (sp_X11_at (kS2 hs)) rfl rfl rfl rfl ?_
  refine a_top (y := W (11 + 2 * p + 1)) ((atF_nI (show p < 6 by omega) (by decide)).trans e0) ?_
  refine a_s4 rfl rfl rfl rfl rfl rfl ?_
  refine a_s rfl rfl ?_
  refine a_s5 rfl rfl rfl rfl rfl rfl ?_
  generalize hs0 : ((W, W (11 + 2 * p + 1), 0) : WdT) = s0 at ok0 ⊢
  refine a_inv (n := dn W) (fun m ls h => ∃ j J, ls = [some (.ref a), some (.int (nI p)), some (.int taken), some (.int (wdF (nI p) taken s0 j).2.2), some (.int (wdF (nI p) taken s0 j).2.1), some (.int (nI j)), none] ∧ h = hp J L w1 w2 t ∧ j ≤ dn W ∧ m = dn W - j ∧ Sd J a (wdF (nI p) taken s0 j).1 ∧ ∀ q, q ≠ a + 4 → q ≠ a + 8 → J q = I q) ⟨0, I, by rw [← hs0]; rfl, rfl, Nat.zero_le _, rfl, by rw [← hs0]; exact hD, fun _ _ _ => rfl⟩ ?_
  rintro m _ _ ⟨j, J, rfl, rfl, hj, hm, hDJ, hf⟩ ih
  have okj := ok0.run (p := nI p) (taken := taken) j hj
  have hdj : J a 3 = nI (dn W) := ((Sd.fd hDJ (f := 3) (g := 1) (by decide)).trans okj.1.1.2.2.2).trans (by rw [okj.2.2.1])
  refine a_l5 rfl rfl rfl ?_
  refine a_l0 rfl rfl rfl ?_
  refine a_getiv (v := nI (dn W)) rfl gfX5_63_5 (kS0 hs) hdj ?_
  refine a_ic_ge rfl (fun c => ?_) (fun c => ?_)
  · have hge := nI_ge_of c (by omega) (by omega)
    obtain rfl : j = dn W := by omega
    refine a_l3 rfl rfl rfl ?_
    exact a_iret rfl rfl ⟨rfl, J, rfl, hf, hDJ⟩
  have hjn := nI_lt_of c (by omega) (by omega)
  refine a_l4 rfl rfl rfl ?_
  refine a_if_le rfl (fun c2 => ?_) (fun c2 => ?_)
  · have e := wdF_stop (p := nI p) (taken := taken) (s := s0) (j := j) (Int32.not_lt.mpr c2) (dn W - j)
    rw [show j + (dn W - j) = dn W by omega] at e
    refine a_l3 rfl rfl rfl ?_
    rw [e]
    exact a_iret rfl rfl ⟨rfl, J, rfl, hf, hDJ⟩
  have hpos := Int32.not_le.mp c2
  have es : wdF (nI p) taken s0 (j + 1) = wdS (nI p) taken (wdF (nI p) taken s0 j) j := rfl
  -- the loop goes on
  have on : ∀ (K : Nat → Nat → Int32) (v : Option Value), Sd K a (wdF (nI p) taken s0 (j + 1)).1 → (∀ q, q ≠ a + 4 → q ≠ a + 8 → K q = I q) → AW S m_X5_work 17 (fun v h' => v = some (.int (wdF (nI p) taken s0 (dn W)).2.2) ∧ ∃ J, h' = hp J L w1 w2 t ∧ (∀ q, q ≠ a + 4 → q ≠ a + 8 → J q = I q) ∧ Sd J a (wdF (nI p) taken s0 (dn W)).1) nX 0 0 144 [some (.ref a), some (.int (nI p)), some (.int taken), some (.int (wdF (nI p) taken s0 (j + 1)).2.2), some (.int (wdF (nI p) taken s0 (j + 1)).2.1), some (.int (nI j)), v] [] (hp K L w1 w2 t) := by
    intro K v hK hfK
    refine a_iv5 (y := nI (j + 1)) rfl rfl rfl ((nI_succ j).symm) ?_
    refine a_goto rfl ?_
    exact a_less (ih (dn W - (j + 1)) _ _ (by omega) ⟨j + 1, K, rfl, rfl, by omega, rfl, hK, hfK⟩) ⟨rfl, rfl, rfl, rfl, rfl, rfl, trivial⟩
  have skip : (¬ (0 < (wdF (nI p) taken s0 j).2.1 ∧ (wdF (nI p) taken s0 j).1 (23 + 6 * j + 0) = nI p ∧ readyR (wdF (nI p) taken s0 j).1 j = true ∧ hasF taken ((wdF (nI p) taken s0 j).1 (23 + 6 * j + 3)) = false)) → wdF (nI p) taken s0 (j + 1) = wdF (nI p) taken s0 j := fun z => if_neg z
  generalize hsj : wdF (nI p) taken s0 j = sj at hDJ okj hpos es skip on ⊢
  have row : ∀ k, k < 6 → J (a + 3 + k) j = sj.1 (23 + 6 * j + k) := fun k hk => hDJ.2.2 j (by omega) k hk
  refine a_l0 rfl rfl rfl ?_
  refine a_getq rfl gfX5_18_5 (kS0 hs) (rS4 hs) ?_
  refine a_l5 rfl rfl rfl ?_
  refine a_eSN1 rfl lX5_86 mo_X11_at (sp_X11_at (kS3 hs)) rfl rfl rfl rfl ?_
  refine a_top (y := sj.1 (23 + 6 * j + 0)) ((atF_nI (show j < 12 by omega) (by decide)).trans (row 0 (by decide))) ?_
  refine a_l1 rfl rfl rfl ?_
  refine a_ic_ne rfl (fun c3 => ?_) (fun c3 => ?_)
  · have e := skip (fun z => c3 z.2.1)
    have on := on J none (by rw [e]; exact hDJ) hf
    rw [e] at on
    exact on
  refine a_l0 rfl rfl rfl ?_
  refine a_l5 rfl rfl rfl ?_
  refine a_eV1 rfl lX5_101 mo_X5_isReady (sp_X5_isReady (nd := dn W) hs hdj h12) rfl rfl rfl ⟨5, _, kS0 hs, rfl, rfl⟩ rfl ?_
  rw [show rdF (dn W) (J (a + 8)) (J (a + 7)) (nI j) = readyR sj.1 j by rw [← okj.2.2.1]; exact rd_same hDJ okj.1 (by rw [okj.2.2.1]; exact hjn)]
  obtain ⟨z, hz⟩ : ∃ z, readyR sj.1 j = z := ⟨_, rfl⟩
  rw [hz]
  cases z with
  | false =>
    refine a_if_eq rfl (fun _ => ?_) (fun c => absurd rfl c)
    have e := skip (fun y => by rw [hz] at y; exact Bool.false_ne_true y.2.2.1)
    have on := on J none (by rw [e]; exact hDJ) hf
    rw [e] at on
    exact on
  | true =>
  refine a_if_eq rfl (fun c => absurd c (by decide)) (fun _ => ?_)
  refine a_l2 rfl rfl rfl ?_
  refine a_l0 rfl rfl rfl ?_
  refine a_getq rfl gfX5_27_5 (kS0 hs) (rS7 hs) ?_
  refine a_l5 rfl rfl rfl ?_
  refine a_eSN1 rfl lX5_86 mo_X11_at (sp_X11_at (kS6 hs)) rfl rfl rfl rfl ?_
  refine a_top (y := sj.1 (23 + 6 * j + 3)) ((atF_nI (show j < 12 by omega) (by decide)).trans (row 3 (by decide))) ?_
  refine a_eSN1 rfl lX5_149 mo_X11_has sp_X11_has rfl rfl rfl rfl ?_
  obtain ⟨z2, hz2⟩ : ∃ z, hasF taken (sj.1 (23 + 6 * j + 3)) = z := ⟨_, rfl⟩
  rw [hz2]
  cases z2 with
  | true =>
    refine a_if_ne rfl (fun _ => ?_) (fun c => absurd c (by decide))
    have e := skip (fun y => by rw [hz2] at y; exact absurd y.2.2.2 (by decide))
    have on := on J none (by rw [e]; exact hDJ) hf
    rw [e] at on
    exact on
  | false =>
  refine a_if_ne rfl (fun c => absurd rfl c) (fun _ => ?_)
  have ec : 0 < sj.2.1 ∧ sj.1 (23 + 6 * j + 0) = nI p ∧ readyR sj.1 j = true ∧ hasF taken (sj.1 (23 + 6 * j + 3)) = false := ⟨hpos, c3, hz, hz2⟩
  refine a_l4 rfl rfl rfl ?_
  refine a_l0 rfl rfl rfl ?_
  refine a_getq rfl gfX5_21_5 (kS0 hs) (rS5 hs) ?_
  refine a_l5 rfl rfl rfl ?_
  refine a_eSN1 rfl lX5_86 mo_X11_at (sp_X11_at (kS4 hs)) rfl rfl rfl rfl ?_
  refine a_top (y := sj.1 (23 + 6 * j + 1)) ((atF_nI (show j < 12 by omega) (by decide)).trans (row 1 (by decide))) ?_
  refine a_min rfl lX5_127 mj_min rfl rfl ?_
  refine a_top (y := mn sj.2.1 (sj.1 (23 + 6 * j + 1))) (rfl) ?_
  refine a_s6 rfl rfl rfl rfl rfl rfl ?_
  refine a_l4 rfl rfl rfl ?_
  refine a_l6 rfl rfl rfl ?_
  refine a_s rfl rfl ?_
  refine a_s4 rfl rfl rfl rfl rfl rfl ?_
  refine a_l3 rfl rfl rfl ?_
  refine a_l0 rfl rfl rfl ?_
  refine a_getq rfl gfX5_27_5 (kS0 hs) (rS7 hs) ?_
  refine a_l5 rfl rfl rfl ?_
  refine a_eSN1 rfl lX5_86 mo_X11_at (sp_X11_at (kS6 hs)) rfl rfl rfl rfl ?_
  refine a_top (y := sj.1 (23 + 6 * j + 3)) ((atF_nI (show j < 12 by omega) (by decide)).trans (row 3 (by decide))) ?_
  refine a_eSN1 rfl lX5_97 mo_X11_bit sp_X11_bit rfl rfl rfl rfl ?_
  refine a_s rfl rfl ?_
  refine a_s3 rfl rfl rfl rfl rfl rfl ?_
  refine a_l0 rfl rfl rfl ?_
  refine a_getq rfl gfX5_21_5 (kS0 hs) (rS5 hs) ?_
  refine a_l5 rfl rfl rfl ?_
  refine a_l0 rfl rfl rfl ?_
  refine a_getq rfl gfX5_21_5 (kS0 hs) (rS5 hs) ?_
  refine a_l5 rfl rfl rfl ?_
  refine a_eSN1 rfl lX5_86 mo_X11_at (sp_X11_at (kS4 hs)) rfl rfl rfl rfl ?_
  refine a_top (y := sj.1 (23 + 6 * j + 1)) ((atF_nI (show j < 12 by omega) (by decide)).trans (row 1 (by decide))) ?_
  refine a_l6 rfl rfl rfl ?_
  refine a_s rfl rfl ?_
  refine a_eSN0 rfl lX5_82 mo_X11_setAt (sp_X11_setAt (kS4 hs)) rfl rfl rfl rfl ?_
  rw [setF_nI (show j < 12 by omega) (by decide)]
  have D1 : Sd (up2 J (a + 4) j (sj.1 (23 + 6 * j + 1) - mn sj.2.1 (sj.1 (23 + 6 * j + 1)))) a (ud sj.1 (23 + 6 * j + 1) (sj.1 (23 + 6 * j + 1) - mn sj.2.1 (sj.1 (23 + 6 * j + 1)))) := Sd.ro (k := 1) hDJ (by omega) (by decide)
  refine a_l0 rfl rfl rfl ?_
  refine a_getq rfl gfX5_21_5 (kS0 hs) (rS5 hs) ?_
  refine a_l5 rfl rfl rfl ?_
  refine a_eSN1 rfl lX5_86 mo_X11_at (sp_X11_at (kS4 hs)) rfl rfl rfl rfl ?_
  refine a_top (y := sj.1 (23 + 6 * j + 1) - mn sj.2.1 (sj.1 (23 + 6 * j + 1))) ((atF_nI (show j < 12 by omega) (by decide)).trans up2_at) ?_
  by_cases c0 : sj.1 (23 + 6 * j + 1) - mn sj.2.1 (sj.1 (23 + 6 * j + 1)) = 0
  · refine a_if_ne rfl (fun c => absurd c0 c) (fun _ => ?_)
    have ew : wdF (nI p) taken s0 (j + 1) = (ud (ud (ud sj.1 (23 + 6 * j + 1) (sj.1 (23 + 6 * j + 1) - mn sj.2.1 (sj.1 (23 + 6 * j + 1)))) (23 + 6 * j + 1) 0) (23 + 6 * j + 5) 1, sj.2.1 - mn sj.2.1 (sj.1 (23 + 6 * j + 1)), sj.2.2 ||| bitF (sj.1 (23 + 6 * j + 3))) := by
      rw [es]
      unfold wdS
      rw [if_pos ec, if_pos c0]
    rw [ew] at on
    refine a_l0 rfl rfl rfl ?_
    refine a_l5 rfl rfl rfl ?_
    refine a_eV0 rfl lX5_153 mo_X5_finish (sp_X5_finish hs) rfl rfl rfl ⟨5, _, kS0 hs, rfl, rfl⟩ rfl ?_
    unfold finF
    rw [setF_nI (show j < 12 by omega) (by decide), setF_nI (show j < 12 by omega) (by decide)]
    exact on _ _ (Sd.ro (k := 5) (Sd.ro (k := 1) D1 (by omega) (by decide)) (by omega) (by decide)) (fun q h4 h8 => by rw [up2_row h8, up2_row h4, up2_row h4]; exact hf q h4 h8)
  · refine a_if_ne rfl (fun _ => ?_) (fun c => absurd c c0)
    have ew : wdF (nI p) taken s0 (j + 1) = (ud sj.1 (23 + 6 * j + 1) (sj.1 (23 + 6 * j + 1) - mn sj.2.1 (sj.1 (23 + 6 * j + 1))), sj.2.1 - mn sj.2.1 (sj.1 (23 + 6 * j + 1)), sj.2.2 ||| bitF (sj.1 (23 + 6 * j + 3))) := by
      rw [es]
      unfold wdS
      rw [if_pos ec, if_neg c0]
    rw [ew] at on
    exact on _ _ D1 (fun q h4 h8 => by rw [up2_row h4]; exact hf q h4 h8)
end T79w
