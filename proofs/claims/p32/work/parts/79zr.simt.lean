/-! ===== the relation is kept by street, by law; whose, ask with finer frames (printed by program) ===== -/
section T79zr
variable {S : aS} {I J K : Nat → Nat → Int32} {L : Nat → Nat → Int64} {w1 w2 t : Nat} {e b a n fa nd np : Nat} {T W V : Nat → Int32}
set_option maxRecDepth 100000
/-- what a text with no street changes in the reference -/
def sU9 (q k : Nat) : Bool := sU q k || (Nat.beq q 420 && (Nat.beq k 9 || (Nat.beq k 10 || Nat.beq k 11)))
theorem sU_sU9 : ∀ q k, sU q k = true → sU9 q k = true := fun q k h => by
  unfold sU9
  rw [h]
  rfl
def Uz (nd np : Nat) (I J : Nat → Nat → Int32) : Prop := Us nd np I J ∧ Fm sU9 I J
theorem Uz.mk (hr : RI nd np I) : Uz nd np I (usH I) := ⟨Us.mk hr, by
  unfold usH
  exact Fm.up (Fm.up (Fm.up (Fm.up Fm.rf rfl) rfl) rfl) rfl⟩
theorem Uz.fm {I1 I2 : Nat → Nat → Int32} (h : Uz nd np I I1) (f : Fm sU I1 I2) : Uz nd np I I2 := ⟨h.1.fm f, Fm.tr h.2 (Fm.mo f sU_sU9)⟩
theorem h_whoseU (hr : RI nd np I) (ht : ∃ l, l ≤ 400 ∧ I 420 9 = nI l) : Sp S m_X12_whose 15 0 0 [.ref 420] (hp I L w1 w2 t) (QR (Uz nd np I) isI L w1 w2 t) nX := by
  obtain ⟨l, hl4, hl⟩ := ht
  refine Sp_of ok_X12_whose rfl rfl ?_
  show AW S m_X12_whose 15 _ _ 0 0 0 [some (.ref 420)] [] (hp I L w1 w2 t)
  have f0 : Uz nd np I (usH I) := Uz.mk hr
  refine a_l0 rfl rfl rfl ?_
  refine a_eV0 rfl lX12_232 mo_X12_uses r_X12_uses rfl rfl rfl ⟨12, _, rfl, rfl, rfl⟩ rfl ?_
  refine a_ren (P := fun J => Uz nd np I J ∧ J 420 11 = nI l) ⟨f0, usH_11.trans hl⟩ (fun I1 hI1 => ?_)
  clear f0
  obtain ⟨f1, he⟩ := hI1
  refine a_l0 rfl rfl rfl ?_
  refine a_l0 rfl rfl rfl ?_
  refine a_gV rfl lX12_438 mo_X12_isTold (r_X12_isTold he hl4) rfl rfl rfl ⟨12, _, rfl, rfl, rfl⟩ rfl (fun v' h' hv => ?_)
  obtain ⟨⟨b, rfl⟩, rfl⟩ := hv
  refine a_if_ne rfl (fun _ => ?_) (fun _ => ?_)
  · refine a_s rfl rfl ?_
    refine a_s rfl rfl ?_
    refine a_gV rfl lX12_243 mo_X12_throwsIf (r_X12_throwsIf (b := false)) rfl rfl rfl ⟨12, _, rfl, rfl, rfl⟩ rfl (fun v' h' hv => ?_)
    obtain ⟨rfl, I2, rfl, f2⟩ := hv
    refine a_if_eq rfl (fun _ => ?_) (fun c => absurd (by decide) c)
    refine a_l0 rfl rfl rfl ?_
    refine a_gV rfl lX12_441 mo_X12_allThatFit (r_X12_allThatFit (f1.fm f2).1.2.2.2.so ((f2 420 11 rfl).trans he) hl4) rfl rfl rfl ⟨12, _, rfl, rfl, rfl⟩ rfl (fun v' h' hv => ?_)
    obtain ⟨⟨v, rfl⟩, rfl⟩ := hv
    exact a_iret rfl rfl ⟨⟨_, rfl⟩, _, rfl, f1.fm f2⟩
  · refine a_s rfl rfl ?_
    refine a_goto rfl ?_
    refine a_s rfl rfl ?_
    refine a_gV rfl lX12_243 mo_X12_throwsIf (r_X12_throwsIf (b := true)) rfl rfl rfl ⟨12, _, rfl, rfl, rfl⟩ rfl (fun v' h' hv => ?_)
    obtain ⟨rfl, I2, rfl, f2⟩ := hv
    refine a_if_eq rfl (fun c => absurd c (by decide)) (fun _ => ?_)
    refine a_s rfl rfl ?_
    refine a_goto rfl ?_
    exact a_iret rfl rfl ⟨⟨_, rfl⟩, _, rfl, f1.fm f2⟩
theorem h_askU (hr : RI nd np I) (ht : ∃ l, l ≤ 400 ∧ I 420 9 = nI l) : Sp S m_X12_ask 15 0 0 [.ref 420] (hp I L w1 w2 t) (QR (Uz nd np I) isI L w1 w2 t) nX := by
  obtain ⟨l, hl4, hl⟩ := ht
  refine Sp_of ok_X12_ask rfl rfl ?_
  show AW S m_X12_ask 15 _ _ 0 0 0 [some (.ref 420), none, none, none, none, none, none, none] [] (hp I L w1 w2 t)
  have f0 : Uz nd np I (usH I) := Uz.mk hr
  refine a_l0 rfl rfl rfl ?_
  refine a_eV0 rfl lX12_232 mo_X12_uses r_X12_uses rfl rfl rfl ⟨12, _, rfl, rfl, rfl⟩ rfl ?_
  refine a_ren (P := fun J => Uz nd np I J ∧ J 420 11 = nI l) ⟨f0, usH_11.trans hl⟩ (fun I1 hI1 => ?_)
  clear f0
  obtain ⟨f1, he⟩ := hI1
  refine a_l0 rfl rfl rfl ?_
  refine a_l0 rfl rfl rfl ?_
  refine a_gV rfl lX12_438 mo_X12_isTold (r_X12_isTold he hl4) rfl rfl rfl ⟨12, _, rfl, rfl, rfl⟩ rfl (fun v' h' hv => ?_)
  obtain ⟨⟨b, rfl⟩, rfl⟩ := hv
  refine a_if_ne rfl (fun _ => ?_) (fun _ => ?_)
  · refine a_s rfl rfl ?_
    refine a_s rfl rfl ?_
    refine a_gV rfl lX12_243 mo_X12_throwsIf (r_X12_throwsIf (b := false)) rfl rfl rfl ⟨12, _, rfl, rfl, rfl⟩ rfl (fun v' h' hv => ?_)
    obtain ⟨rfl, I2, rfl, f2⟩ := hv
    refine a_if_eq rfl (fun _ => ?_) (fun c => absurd (by decide) c)
    have hs2 := (f1.fm f2).1.2.2.2.so
    have h6 := hs2.p
    refine a_l0 rfl rfl rfl ?_
    refine a_gV rfl lX12_441 mo_X12_allThatFit (r_X12_allThatFit hs2 ((f2 420 11 rfl).trans he) hl4) rfl rfl rfl ⟨12, _, rfl, rfl, rfl⟩ rfl (fun v' h' hv => ?_)
    obtain ⟨⟨v, rfl⟩, rfl⟩ := hv
    refine a_s1 rfl rfl rfl rfl rfl rfl ?_
    refine a_l1 rfl rfl rfl ?_
    refine a_eS1 rfl lX12_310 mo_J6_bitCount_0f7a4 (sp_bitCount) rfl rfl rfl rfl ?_
    refine a_s2 rfl rfl rfl rfl rfl rfl ?_
    refine a_s rfl rfl ?_
    refine a_s3 rfl rfl rfl rfl rfl rfl ?_
    refine a_ldcw rfl kX12_401 ?_
    refine a_s4 rfl rfl rfl rfl rfl rfl ?_
    refine a_s rfl rfl ?_
    refine a_s5 rfl rfl rfl rfl rfl rfl ?_
    refine a_cnt (j0 := 0) (fun j ls h => ∃ a b, ls = [some (.ref 420), some (.int v), some (.int (bcF v)), some (.int a), some (.int b), some (.int (nI j)), none, none] ∧ h = hp I2 L w1 w2 t) (by decide) ⟨_, _, rfl, rfl⟩ ⟨rfl, rfl, rfl, rfl, rfl, rfl, trivial⟩ ?_
    rintro j _ _ hj ⟨a, b, rfl, rfl⟩ ih
    have out : ∀ {y6 y7 : Option Value} {a b c : Int32}, AW S m_X12_ask 15 (QR (Uz nd np I) isI L w1 w2 t) nX 0 0 150 [some (.ref 420), some (.int v), some (.int (bcF v)), some (.int a), some (.int b), some (.int c), y6, y7] [] (hp I2 L w1 w2 t) := by
      intro y6 y7 a b c
      refine a_l3 rfl rfl rfl ?_
      exact a_iret rfl rfl ⟨⟨_, rfl⟩, _, rfl, f1.fm f2⟩
    refine a_l5 rfl rfl rfl ?_
    refine a_s rfl rfl ?_
    refine a_ic_ge rfl (fun _ => out) (fun c15 => ?_)
    refine a_l2 rfl rfl rfl ?_
    refine a_s rfl rfl ?_
    refine a_ic_le rfl (fun _ => out) (fun _ => ?_)
    refine a_s rfl rfl ?_
    refine a_s6 rfl rfl rfl rfl rfl rfl ?_
    refine a_s rfl rfl ?_
    refine a_s7 rfl rfl rfl rfl rfl rfl ?_
    refine a_cnt (j0 := 0) (fun p ls h => ∃ y, ls = [some (.ref 420), some (.int v), some (.int (bcF v)), some (.int a), some (.int b), some (.int (nI j)), some (.int y), some (.int (nI p))] ∧ h = hp I2 L w1 w2 t) (by decide) ⟨_, rfl, rfl⟩ ⟨rfl, rfl, rfl, rfl, rfl, rfl, rfl, rfl, trivial⟩ ?_
    rintro p _ _ hp4 ⟨y, rfl, rfl⟩ ih2
    refine a_l7 rfl rfl rfl ?_
    refine a_l0 rfl rfl rfl ?_
    refine a_eV1 rfl lX12_66 mo_X12_people sp_X12_people rfl rfl rfl ⟨12, _, rfl, rfl, rfl⟩ rfl ?_
    refine a_top (y := nI np) hs2.pu ?_
    refine a_ic_ge rfl (fun c => ?_) (fun c => ?_)
    · refine a_l6 rfl rfl rfl ?_
      refine a_l2 rfl rfl rfl ?_
      refine a_l6 rfl rfl rfl ?_
      refine a_s rfl rfl ?_
      refine a_max rfl lX12_265 mj_max rfl rfl ?_
      refine a_s7 rfl rfl rfl rfl rfl rfl ?_
      refine a_l7 rfl rfl rfl ?_
      refine a_l4 rfl rfl rfl ?_
      have fin : ∀ {x z : Int32}, AW S m_X12_ask 15 (QR (Uz nd np I) isI L w1 w2 t) nX 0 0 134 [some (.ref 420), some (.int v), some (.int (bcF v)), some (.int a), some (.int b), some (.int (nI j)), some (.int y), some (.int x)] [.int z] (hp I2 L w1 w2 t) := by
        intro x z
        refine a_s3 rfl rfl rfl rfl rfl rfl ?_
        refine a_l4 rfl rfl rfl ?_
        refine a_l7 rfl rfl rfl ?_
        refine a_min rfl lX12_295 mj_min rfl rfl ?_
        refine a_s4 rfl rfl rfl rfl rfl rfl ?_
        refine a_i5 rfl rfl rfl ?_
        refine a_goto rfl ?_
        exact ih _ _ _ _ c15 ⟨_, _, rfl, rfl⟩ ⟨rfl, rfl, rfl, rfl, rfl, nS _, trivial⟩
      refine a_ic_ge rfl (fun _ => ?_) (fun _ => ?_)
      · refine a_l3 rfl rfl rfl ?_
        exact fin
      · refine a_l5 rfl rfl rfl ?_
        refine a_goto rfl ?_
        exact fin
    · have hpp : p < np := nI_lt_of c hp4 (by omega)
      have fin : ∀ {x : Int32}, AW S m_X12_ask 15 (QR (Uz nd np I) isI L w1 w2 t) nX 0 0 101 [some (.ref 420), some (.int v), some (.int (bcF v)), some (.int a), some (.int b), some (.int (nI j)), some (.int y), some (.int (nI p))] [.int x, .int y] (hp I2 L w1 w2 t) := by
        intro x
        refine a_s rfl rfl ?_
        refine a_s6 rfl rfl rfl rfl rfl rfl ?_
        refine a_i7 rfl rfl rfl ?_
        refine a_goto rfl ?_
        exact ih2 _ _ _ _ c ⟨_, rfl, rfl⟩ ⟨rfl, rfl, rfl, rfl, rfl, rfl, rfl, nS _, trivial⟩
      refine a_l6 rfl rfl rfl ?_
      refine a_l1 rfl rfl rfl ?_
      refine a_l7 rfl rfl rfl ?_
      refine a_eS1 rfl lX12_304 mo_X12_has (sp_X12_has) rfl rfl rfl rfl ?_
      refine a_if_eq rfl (fun _ => ?_) (fun _ => ?_)
      · refine a_s rfl rfl ?_
        exact fin
      · refine a_l0 rfl rfl rfl ?_
        refine a_l7 rfl rfl rfl ?_
        refine a_s rfl rfl ?_
        refine a_eV1 rfl lX12_252 mo_X12_ofPerson (sp_X12_ofPerson (d := p) (k := 0) (by omega) (by decide)) rfl rfl rfl ⟨12, _, rfl, rfl, rfl⟩ rfl ?_
        refine a_l5 rfl rfl rfl ?_
        refine a_ic_gt rfl (fun _ => ?_) (fun _ => ?_)
        · refine a_s rfl rfl ?_
          exact fin
        · refine a_s rfl rfl ?_
          refine a_goto rfl ?_
          exact fin
  · refine a_s rfl rfl ?_
    refine a_goto rfl ?_
    refine a_s rfl rfl ?_
    refine a_gV rfl lX12_243 mo_X12_throwsIf (r_X12_throwsIf (b := true)) rfl rfl rfl ⟨12, _, rfl, rfl, rfl⟩ rfl (fun v' h' hv => ?_)
    obtain ⟨rfl, I2, rfl, f2⟩ := hv
    refine a_if_eq rfl (fun c => absurd c (by decide)) (fun _ => ?_)
    refine a_s rfl rfl ?_
    exact a_iret rfl rfl ⟨⟨_, rfl⟩, _, rfl, f1.fm f2⟩
theorem Nm.eq3 (h : Nm I a W) (f : ∀ k, k < 335 → k ≠ 3 → V k = W k) : Nm I a V := by
  obtain ⟨⟨h1, h2, h3⟩, hl, ⟨⟨r1, r2, r3, r4⟩, hf, hp, hd⟩⟩ := h
  have hb : ∀ x ∈ flds, x.2 < 95 ∧ x.2 ≠ 3 := by decide
  refine ⟨⟨fun x hx => ?_, fun p hp => ?_, fun d hd k hk => ?_⟩, hl.eq rfl rfl (f 9 (by decide) (by decide)) fun k g1 g2 => f k g2 (by omega), (Rg.of r1 r2 ((f 0 (by decide) (by decide)).trans r3) ((f 1 (by decide) (by decide)).trans r4) ?_ (fun p z => (hp p z).eq (f _ (by omega) (by omega)) (f _ (by omega) (by omega))) (fun d z => (hd d z).eq fun k hk => f _ (by omega) (by omega)))⟩
  · have := hb x hx
    rw [f _ (by omega) (by omega)]
    exact h1 x hx
  · rw [f _ (by omega) (by omega), f _ (by omega) (by omega)]
    exact h2 p hp
  · rw [f _ (by omega) (by omega)]
    exact h3 d hd k hk
  · unfold RgF
    rw [f 2 (by decide) (by decide), f 4 (by decide) (by decide), f 5 (by decide) (by decide), f 6 (by decide) (by decide), f 7 (by decide) (by decide), f 8 (by decide) (by decide)]
    exact hf
/-- behind a law: the same but for the law, no acts -/
theorem Sim.law {r : LRs} (h : Sim I) (f : Fm sLw I J) (c : LwC r J) (h12 : r.2.2.2.length ≤ 12) (h400 : r.2.2.1.length ≤ 400) (ok : LsOk r.2.2.1 r.2.2.2) (nb : LnB r.2.2.2) (us : Us nd np J K) (g : ∀ q, q ≠ 420 → q ≠ 421 → K q = J q) (e7 : K 420 7 = 0) (elo : ∀ k, k < 335 → k ≠ 3 → K 421 k = J 421 k) (lj : LwJ r J K) (hz : r.1 = true) : Sim K := by
  obtain ⟨h1, _, h3, n, fa, hn, hf, e1, e2, e3, _⟩ := h
  obtain ⟨_, c13, c0, c1, c2⟩ := c
  obtain ⟨w3, w335, M, m1, m2, m3⟩ := lj.1 hz
  have row : ∀ q, 235 ≤ q → (q < 246 ∨ 251 < q) → J q = I q := fun q g1 g2 => funext fun k => f q k (sLw_hi g1 g2)
  have e21 : J 421 = I 421 := row 421 (by decide) (by decide)
  refine ⟨(h1.eq3 (V := K 421) fun k g1 g2 => by rw [elo k g1 g2, e21]).eq fun q g1 g2 => by rw [g q (by omega) (by omega), row q (by omega) (by omega)], Nl.of ok h12 h400 nb ?_ ?_ ?_ w3 w335 m1 m2 m3, h3.eq (fun q g1 g2 => by rw [g q (by omega) (by omega), row q (by omega) (by omega)]) ?_ ?_ ?_, 0, fa, by decide, hf, ?_, e7, ?_, fun i hi => absurd hi (Nat.not_lt_zero _)⟩
  · rw [g 246 (by decide) (by decide)]
    exact c0
  · rw [g 247 (by decide) (by decide), g 248 (by decide) (by decide), g 249 (by decide) (by decide), g 250 (by decide) (by decide)]
    exact c1
  · rw [g 251 (by decide) (by decide)]
    exact c2
  · rw [g 422 (by decide) (by decide), row 422 (by decide) (by decide)]
  · rw [g 200 (by decide) (by decide)]
    exact f 200 10 rfl
  · rw [us.2.2.1, row 420 (by decide) (by decide)]
  · rw [g 200 (by decide) (by decide)]
    exact c13
  · rw [g 200 (by decide) (by decide)]
    exact (f 200 12 rfl).trans e3
/-- what the relation reads, and no draft -/
theorem Sim.lo (h : Sim I) (f : ∀ q, 235 ≤ q → q < 420 → (q < 252 ∨ 268 ≤ q) → J q = I q) (f1 : ∀ k, k < 1184 → J 421 k = I 421 k) (f2 : J 422 = I 422) (f5 : J 425 = I 425) (g1 : J 200 10 = I 200 10) (g2 : J 200 12 = I 200 12) (g3 : J 200 13 = I 200 13) (g4 : J 420 6 = I 420 6) (g5 : J 420 7 = I 420 7) : Sim J := by
  obtain ⟨h1, h2, h3, n, fa, hn, hf, e1, e2, e3, h4⟩ := h
  refine ⟨(h1.eqW fun k hk => f1 k (by omega)).eq fun q k1 k2 => f q (by omega) (by omega) (by omega), h2.at (congrFun (f 246 (by decide) (by decide) (by decide)) 0) (fun i k1 k2 => f _ (by omega) (by omega) (by omega)) (f1 3 (by decide)) (fun k _ hk => f1 k hk), h3.eq (fun q k1 k2 => f q (by omega) (by omega) (by omega)) f2 g1 g4, n, fa, hn, hf, g3.trans e1, g5.trans e2, g2.trans e3, fun i hi => ?_⟩
  rw [f5, f1 3 (by decide)]
  exact ⟨(h4 i hi).1.eq fun q k1 k2 => f q (by omega) (by omega) (by omega), (h4 i hi).2⟩
theorem Sim.lawNo {r : LRs} (h : Sim I) (f : Fm sLf I J) (us : Us nd np J K) (g : ∀ q, q ≠ 420 → q ≠ 421 → K q = J q) (e7 : K 420 7 = J 420 7) (lj : LwJ r J K) (hz : r.1 = false) : Sim K := by
  have row : ∀ q, 235 ≤ q → J q = I q := fun q g1 => funext fun k => f q k (sLf_hi g1)
  refine h.lo (fun q g1 g2 g3 => by rw [g q (by omega) (by omega), row q g1]) (fun k hk => by rw [lj.2 hz k hk, row 421 (by decide)]) (by rw [g 422 (by decide) (by decide), row 422 (by decide)]) (by rw [g 425 (by decide) (by decide), row 425 (by decide)]) ?_ ?_ ?_ (by rw [us.2.2.1, row 420 (by decide)]) (by rw [e7, row 420 (by decide)])
  · rw [g 200 (by decide) (by decide)]
    exact f 200 10 rfl
  · rw [g 200 (by decide) (by decide)]
    exact f 200 12 rfl
  · rw [g 200 (by decide) (by decide)]
    exact f 200 13 rfl
/-- what a text of the street leaves as it is -/
def Ky (k : Nat) : Prop := 95 ≤ k ∨ k = 3 ∨ k = 9
theorem perP_hi (h : WOk W) {k : Nat} (hk : Ky k) (hz : (perP T e b W).1 = true) : (perP T e b W).2.2 k = W k := by
  obtain ⟨w1, w2, w3, w4⟩ := h
  unfold Ky at hk
  unfold perP at hz ⊢
  by_cases c : W 0 = 6
  · rw [if_pos c] at hz
    cases hz
  have n6 : pn W ≠ 6 := fun z => c (by rw [w3, z]; rfl)
  rw [if_neg c] at hz ⊢
  generalize nbP T e 1 0 15 (nx T e b) = x at hz ⊢
  unfold perB at hz ⊢
  by_cases c2 : x.1 = -1
  · rw [if_pos c2] at hz
    cases hz
  rw [if_neg c2] at hz ⊢
  generalize nbP T e 2 0 9 x.2 = y at hz ⊢
  unfold perC at hz ⊢
  by_cases c3 : y.1 = -1
  · rw [if_pos c3] at hz
    cases hz
  rw [if_neg c3]
  show ud (ud (ud W (11 + 2 * pn W) x.1) (11 + 2 * pn W + 1) y.1) 0 (nI (pn W + 1)) k = W k
  rw [ud_ne (by omega), ud_ne (by omega), ud_ne (by omega)]
theorem dutP_hi (h : WOk W) {k : Nat} (hk : Ky k) (hz : (dutP T e b W).1 = true) : (dutP T e b W).2.2 k = W k := by
  obtain ⟨w1, w2, w3, w4⟩ := h
  unfold Ky at hk
  unfold dutP at hz ⊢
  by_cases c : W 1 = 12
  · rw [if_pos c] at hz
    cases hz
  have n12 : dn W ≠ 12 := fun z => c (by rw [w4, z]; rfl)
  rw [if_neg c] at hz ⊢
  generalize nbP T e 4 0 (W 0 - 1) (nx T e b) = x at hz ⊢
  unfold duA at hz ⊢
  by_cases c2 : x.1 = -1
  · rw [if_pos c2] at hz
    cases hz
  rw [if_neg c2] at hz ⊢
  generalize nbP T e 5 1 99 x.2 = y at hz ⊢
  unfold duB at hz ⊢
  by_cases c3 : y.1 = -1
  · rw [if_pos c3] at hz
    cases hz
  rw [if_neg c3] at hz ⊢
  generalize optP T e 6 0 99 0 y.2 = u at hz ⊢
  unfold duC at hz ⊢
  by_cases c4 : u.1 = true
  rotate_left
  · rw [if_neg c4] at hz
    cases hz
  rw [if_pos c4] at hz ⊢
  generalize optP T e 7 0 5 (-1) u.2.2 = v at hz ⊢
  unfold duD at hz ⊢
  by_cases c5 : v.1 = true
  rotate_left
  · rw [if_neg c5] at hz
    cases hz
  rw [if_pos c5] at hz ⊢
  generalize optP T e 8 0 (W 1 - 1) (-1) v.2.2 = w at hz ⊢
  unfold duE at hz ⊢
  by_cases c6 : w.1 = true
  rotate_left
  · rw [if_neg c6] at hz
    cases hz
  rw [if_pos c6]
  show addDt W x.1 y.1 u.2.1 v.2.1 w.2.1 k = W k
  unfold addDt
  rw [ud_ne (by omega), ud_ne (by omega), ud_ne (by omega), ud_ne (by omega), ud_ne (by omega), ud_ne (by omega), ud_ne (by omega)]
theorem forP_hi (h : WOk W) {k : Nat} (hk : Ky k) (hz : (forP T e b W).1 = true) : (forP T e b W).2.2 k = W k := by
  obtain ⟨w1, w2, w3, w4⟩ := h
  unfold Ky at hk
  unfold forP at hz ⊢
  by_cases c : nm T e b 0 (W 1 - 1) = -1
  · rw [if_pos c] at hz
    cases hz
  rw [if_neg c] at hz ⊢
  by_cases c2 : W (23 + 6 * (nm T e b 0 (W 1 - 1)).toNatClampNeg + 5) = 0
  · rw [if_pos c2]
    show ud W (23 + 6 * (nm T e b 0 (W 1 - 1)).toNatClampNeg + 5) 2 k = W k
    rw [w4] at c ⊢
    obtain ⟨j, hj, ej⟩ := nm_ix w2 c
    rw [ej, nI_clamp (by omega)]
    exact ud_ne (by omega)
  · rw [if_neg c2] at hz
    cases hz
theorem setP_hi {g : Nat} {lo hi : Int32} (hg : g < 9 ∧ g ≠ 3) {k : Nat} (hk : Ky k) (hz : (setP T e b W g lo hi).1 = true) : (setP T e b W g lo hi).2.2 k = W k := by
  unfold Ky at hk
  unfold setP at hz ⊢
  by_cases c : nm T e b lo hi = -1
  · rw [if_pos c] at hz
    cases hz
  rw [if_neg c]
  exact ud_ne (by omega)
theorem stgP_hi {k : Nat} (hk : Ky k) (hz : (stgP T e b W).1 = true) : (stgP T e b W).2.2 k = W k := by
  unfold stgP at hz ⊢
  by_cases c : isWd T e b 10 = true
  · rw [if_pos c] at hz ⊢; exact setP_hi (by decide) hk hz
  rw [if_neg c] at hz ⊢
  by_cases c : isWd T e b 11 = true
  · rw [if_pos c] at hz ⊢; exact setP_hi (by decide) hk hz
  rw [if_neg c] at hz ⊢
  by_cases c : isWd T e b 12 = true
  · rw [if_pos c] at hz ⊢; exact setP_hi (by decide) hk hz
  rw [if_neg c] at hz ⊢
  by_cases c : isWd T e b 13 = true
  · rw [if_pos c] at hz ⊢; exact setP_hi (by decide) hk hz
  rw [if_neg c] at hz ⊢
  by_cases c : isWd T e b 14 = true
  · rw [if_pos c] at hz ⊢; exact setP_hi (by decide) hk hz
  rw [if_neg c] at hz
  cases hz
theorem linP_hi (h : WOk W) {k : Nat} (hk : Ky k) (hz : (linP T e b W).1 = true) : (linP T e b W).2.2 k = W k := by
  unfold linP at hz ⊢
  by_cases c : isWd T e b 0 = true
  · rw [if_pos c] at hz ⊢; exact perP_hi h hk hz
  rw [if_neg c] at hz ⊢
  by_cases c : isWd T e b 3 = true
  · rw [if_pos c] at hz ⊢; exact dutP_hi h hk hz
  rw [if_neg c] at hz ⊢
  by_cases c : isWd T e b 9 = true
  · rw [if_pos c] at hz ⊢; exact forP_hi h hk hz
  rw [if_neg c] at hz ⊢
  exact stgP_hi hk hz
theorem strsP_hi {k : Nat} (hk : Ky k) : ∀ (f b : Nat) (W : Nat → Int32), WOk W → (strsP T e f b W).1 = true → (strsP T e f b W).2.2 k = W k := by
  intro f
  induction f with
  | zero => exact fun b W _ hz => by cases hz
  | succ f ih =>
    intro b W h hz
    rw [strsP_s] at hz ⊢
    have hl := linP_hi (T := T) (e := e) (b := b) h hk
    have ho := linP_ok (T := T) (e := e) (b := b) h
    generalize linP T e b W = r at hz hl ho ⊢
    by_cases c1 : r.1 = true
    · rw [if_pos c1] at hz ⊢
      by_cases c2 : r.2.1 < e
      · rw [if_pos c2] at hz ⊢
        by_cases c3 : sg T e r.2.1 59 = true
        · rw [if_pos c3] at hz ⊢
          exact (ih _ _ (ho c1) hz).trans (hl c1)
        · rw [if_neg c3] at hz
          cases hz
      · rw [if_neg c2]
        exact hl c1
    · rw [if_neg c1] at hz
      cases hz
theorem strP_hi (h : WOk W) {k : Nat} (hk : Ky k) (hz : (strP T e W).1 = true) : (strP T e W).2.2 k = W k := by
  unfold strP at hz ⊢
  by_cases c : bg T e 0 < e
  · rw [if_pos c] at hz ⊢
    exact strsP_hi hk _ _ _ h hz
  · rw [if_neg c]
theorem Rg.tx (h : Rg W) {x : Int32} (hx : Nb x 12) : Rg (ud W 2 x) := by
  obtain ⟨⟨r1, r2, r3, r4⟩, ⟨_, f4, f5, f6, f7, f8⟩, hp, hd⟩ := h
  refine (Rg.of r1 r2 ((ud_ne (by decide)).trans r3) ((ud_ne (by decide)).trans r4) ?_ (fun p z => (hp p z).eq (ud_ne (by omega)) (ud_ne (by omega))) (fun d z => (hd d z).eq fun k hk => ud_ne (by omega)))
  unfold RgF
  rw [ud_at, ud_ne (show 4 ≠ 2 by decide), ud_ne (show 5 ≠ 2 by decide), ud_ne (show 6 ≠ 2 by decide), ud_ne (show 7 ≠ 2 by decide), ud_ne (show 8 ≠ 2 by decide)]
  exact ⟨hx, f4, f5, f6, f7, f8⟩
/-- behind a street that was read -/
theorem Sim.street (h : Sim I) (hz : (strP T e (I 421)).1 = true) (h2 : ¬ I 421 2 = 12) (f : Fm sJ I J) (c13 : J 200 13 = 0) (D : Sd J 235 (ud (strP T e (I 421)).2.2 2 (I 421 2 + 1))) (g : ∀ q, q < 420 → K q = J q) (g6 : K 420 6 = J 420 6) (k2 : K 422 = J 422) (e1 : K 421 = ud (strP T e (I 421)).2.2 2 (I 421 2 + 1)) (e7 : K 420 7 = 0) : Sim K := by
  obtain ⟨h1, hl, h3, n, fa, hn, hf, _, _, e3, _⟩ := h
  have row : ∀ q, 244 ≤ q → J q = I q := fun q g1 => funext fun k => f q k (sJ_hi g1)
  have hG := h1.2.2
  have hi : ∀ k, Ky k → K 421 k = I 421 k := fun k hk => by
    rw [e1, ud_ne (by unfold Ky at hk; omega)]
    exact strP_hi hG.1 hk hz
  have hRG : Rg (K 421) := by
    rw [e1]
    refine (strP_rg hG hz).tx ?_
    obtain ⟨k, k12, ek⟩ := hG.2.1.1
    rw [ek] at h2 ⊢
    refine ⟨k + 1, ?_, (nI_succ k).symm⟩
    have : k ≠ 12 := fun z => h2 (by rw [z]; rfl)
    omega
  refine ⟨⟨?_, h1.2.1.eq ?_ ?_ ?_ ?_, hRG⟩, hl.eq (fun q g1 g2 => by rw [g q (by omega), row q (by omega)]) (hi 3 (Or.inr (Or.inl rfl))) (fun k hk => hi k (Or.inl (by omega))), h3.eq (fun q g1 g2 => by rw [g q (by omega), row q (by omega)]) ?_ ?_ ?_, 0, fa, by decide, hf, ?_, e7, ?_, fun i hi => absurd hi (Nat.not_lt_zero _)⟩
  · rw [e1]
    exact D.eq fun q g1 g2 => g q (by omega)
  · exact (g 244 (by decide)).trans (row 244 (by decide))
  · exact (g 245 (by decide)).trans (row 245 (by decide))
  · exact hi 9 (Or.inr (Or.inr rfl))
  · exact fun k g1 g2 => hi k (Or.inl g1)
  · rw [k2, row 422 (by decide)]
  · rw [g 200 (by decide)]
    exact f 200 10 rfl
  · rw [g6, row 420 (by decide)]
  · rw [g 200 (by decide)]
    exact c13
  · rw [g 200 (by decide)]
    exact (f 200 12 rfl).trans e3
/-- behind one that was not -/
theorem Sim.streetNo (h : Sim I) (f : Fm sJ I J) (c13 : J 200 13 = I 200 13) (D : Sd J 235 (I 421)) (g : ∀ q, q < 420 → K q = J q) (g6 : K 420 6 = J 420 6) (k2 : K 422 = J 422) (k5 : K 425 = J 425) (e1 : K 421 = J 421) (e7 : K 420 7 = J 420 7) : Sim K := by
  obtain ⟨h1, hl, h3, n, fa, hn, hf, e1', e2, e3, h4⟩ := h
  have row : ∀ q, 244 ≤ q → J q = I q := fun q g1 => funext fun k => f q k (sJ_hi g1)
  have w : K 421 = I 421 := e1.trans (row 421 (by decide))
  refine ⟨⟨?_, h1.2.1.eq ?_ ?_ ?_ ?_, ?_⟩, hl.eq (fun q g1 g2 => by rw [g q (by omega), row q (by omega)]) (congrFun w 3) (fun k _ => congrFun w k), h3.eq (fun q g1 g2 => by rw [g q (by omega), row q (by omega)]) ?_ ?_ ?_, n, fa, hn, hf, ?_, ?_, ?_, fun i hi => ?_⟩
  · rw [w]
    exact D.eq fun q g1 g2 => g q (by omega)
  · exact (g 244 (by decide)).trans (row 244 (by decide))
  · exact (g 245 (by decide)).trans (row 245 (by decide))
  · exact congrFun w 9
  · exact fun k _ _ => congrFun w k
  · rw [w]
    exact h1.2.2
  · rw [k2, row 422 (by decide)]
  · rw [g 200 (by decide)]
    exact f 200 10 rfl
  · rw [g6, row 420 (by decide)]
  · rw [g 200 (by decide), c13]
    exact e1'
  · rw [e7, row 420 (by decide)]
    exact e2
  · rw [g 200 (by decide)]
    exact (f 200 12 rfl).trans e3
  · rw [k5, row 425 (by decide), w]
    exact ⟨(h4 i hi).1.eq fun q g1 g2 => by rw [g q (by omega), row q (by omega)], (h4 i hi).2⟩
end T79zr
