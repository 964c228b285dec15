/-! ===== days with its answer: how many were done, on both sides (printed by program from the walks of 79x, 79za, 79zf, 79zg) ===== -/
section T79zzp
variable {S : aS} {I J K : Nat → Nat → Int32} {L : Nat → Nat → Int64} {w1 w2 t : Nat} {nl len n fa r e nd d p : Nat} {cd fa' fn fc : Nat → Nat} {W V : Nat → Int32} {taken had : Int32} {v : Option Value} {h' : aH}
set_option maxRecDepth 100000
theorem cntF_1 {P Q : Nat → Bool} {d : Nat} : ∀ {n : Nat}, d < n → (∀ x, x < n → x ≠ d → P x = Q x) → P d = true → Q d = false → cntF n P = cntF n Q + 1 := by
  intro n
  induction n with
  | zero => exact fun h => absurd h (Nat.not_lt_zero _)
  | succ n ih =>
    intro hd h p q
    by_cases c : d = n
    · subst c
      rw [cntF_t p, cntF_f q, cntF_congr fun x hx => h x (by omega) (by omega)]
    · have ih := ih (by omega) (fun x hx => h x (by omega)) p q
      have e := h n (Nat.lt_succ_self n) (fun z => c z.symm)
      cases hq : Q n with
      | true =>
        rw [cntF_t (e.trans hq), cntF_t hq, ih]
      | false =>
        rw [cntF_f (e.trans hq), cntF_f hq, ih]
theorem cntF_n {P Q : Nat → Bool} : ∀ {n : Nat}, (∀ x, x < n → Q x = true → P x = true) → cntF n (fun x => P x && !Q x) + cntF n Q = cntF n P := by
  intro n
  induction n with
  | zero => exact fun _ => rfl
  | succ n ih =>
    intro h
    have ih := ih fun x hx => h x (by omega)
    cases hq : Q n with
    | true =>
      have hp := h n (Nat.lt_succ_self n) hq
      rw [cntF_t hq, cntF_t hp, cntF_f (n := n) (P := fun x => P x && !Q x) (by show (P n && !Q n) = false; rw [hq, hp]; rfl)]
      omega
    | false =>
      rw [cntF_f hq]
      cases hp : P n with
      | true =>
        rw [cntF_t hp, cntF_t (n := n) (P := fun x => P x && !Q x) (by show (P n && !Q n) = true; rw [hq, hp]; rfl)]
        omega
      | false =>
        rw [cntF_f hp, cntF_f (n := n) (P := fun x => P x && !Q x) (by show (P n && !Q n) = false; rw [hp]; rfl)]
        exact ih
/-- how many are done -/
def dC (n : Nat) (W : Nat → Int32) : Nat := cntF n (fun d => decide (W (23 + 6 * d + 5) = 1))
theorem dC_eq {n : Nat} (h : ∀ d, d < n → V (23 + 6 * d + 5) = W (23 + 6 * d + 5)) : dC n V = dC n W := cntF_congr fun d hd => by rw [h d hd]
theorem dC_fin {n j : Nat} {x : Int32} (hj : j < n) (h0 : W (23 + 6 * j + 5) = 0) : dC n (ud (ud (ud W (23 + 6 * j + 1) x) (23 + 6 * j + 1) 0) (23 + 6 * j + 5) 1) = dC n W + 1 := by
  refine cntF_1 hj (fun y hy c => ?_) (decide_eq_true ud_at) (decide_eq_false fun z => ?_)
  · show decide (ud (ud (ud W (23 + 6 * j + 1) x) (23 + 6 * j + 1) 0) (23 + 6 * j + 5) 1 (23 + 6 * y + 5) = 1) = decide (W (23 + 6 * y + 5) = 1)
    rw [ud_ne (by omega), ud_ne (by omega), ud_ne (by omega)]
  · rw [h0] at z
    exact absurd z (by decide)
theorem dC_lf {n j : Nat} {x : Int32} : dC n (ud W (23 + 6 * j + 1) x) = dC n W := dC_eq fun d hd => ud_ne (by omega)
theorem ad_r {a b : Int32} : a + 1 + b = a + b + 1 := by rw [Int32.add_assoc, Int32.add_comm 1 b, ← Int32.add_assoc]
theorem ad_s {a b c d e : Int32} (h1 : a + c = d) (h2 : b + d = e) : a + b + c = e := by rw [Int32.add_assoc, Int32.add_comm b c, ← Int32.add_assoc, h1, Int32.add_comm, h2]
theorem dC_ps {calm : Bool} {n : Nat} : dC n (psW calm W) = dC n W := dC_eq fun d hd => by
  unfold psW
  by_cases c : calm = true
  · rw [if_pos c]
  · rw [if_neg c, ud_ne (by omega)]
theorem gwF_st {g : (Nat → Int32) → Nat → Int32} {d : Nat} : ∀ n, gwF g W n (23 + 6 * d + 5) = W (23 + 6 * d + 5) := by
  intro n
  induction n with
  | zero => rfl
  | succ n ih =>
    show gwS g (gwF g W n) n (23 + 6 * d + 5) = _
    unfold gwS
    by_cases c : gwF g W n (23 + 6 * n + 5) = 1
    · rw [if_pos c, ih]
    · rw [if_neg c, ud_ne (by omega), ud_ne (by omega), ih]
theorem nwD_st {g : (Nat → Int32) → Nat → Int32} {d : Nat} : nwD g W (23 + 6 * d + 5) = W (23 + 6 * d + 5) := by
  unfold nwD
  by_cases c : 30 < W 4 + 1
  · rw [if_pos c, gwF_st, ud_ne (by omega), ud_ne (by omega), ud_ne (by omega)]
  · rw [if_neg c, ud_ne (by omega)]
theorem dyP_st {d : Nat} (hd : d < 12) : dyP cd fc fn nl W (23 + 6 * d + 5) = W (23 + 6 * d + 5) := by
  unfold dyP
  by_cases c : W 4 = 2
  · rw [if_pos c]
    exact ltF_lo (Or.inl (by omega)) (by omega)
  · rw [if_neg c]
/-- what is done stays done -/
def SM (W V : Nat → Int32) : Prop := ∀ d, d < 12 → W (23 + 6 * d + 5) = 1 → V (23 + 6 * d + 5) = 1
theorem SM.wd {s : WdT} {p : Int32} (h : SM W s.1) : ∀ n, SM W (wdF p taken s n).1 := by
  intro n
  induction n with
  | zero => exact h
  | succ n ih =>
    intro d hd h1
    have g := ih d hd h1
    show (wdS p taken (wdF p taken s n) n).1 (23 + 6 * d + 5) = 1
    unfold wdS
    by_cases c : 0 < (wdF p taken s n).2.1 ∧ (wdF p taken s n).1 (23 + 6 * n + 0) = p ∧ readyR (wdF p taken s n).1 n = true ∧ hasF taken ((wdF p taken s n).1 (23 + 6 * n + 3)) = false
    · rw [if_pos c]
      by_cases c0 : (wdF p taken s n).1 (23 + 6 * n + 1) - mn (wdF p taken s n).2.1 ((wdF p taken s n).1 (23 + 6 * n + 1)) = 0
      · rw [if_pos c0]
        by_cases ce : d = n
        · subst ce
          exact ud_at
        · exact (ud_ne (by omega)).trans ((ud_ne (by omega)).trans ((ud_ne (by omega)).trans g))
      · rw [if_neg c0]
        exact (ud_ne (by omega)).trans g
    · rw [if_neg c]
      exact g
theorem psW_st {calm : Bool} {d : Nat} : psW calm W (23 + 6 * d + 5) = W (23 + 6 * d + 5) := by
  unfold psW
  by_cases c : calm = true
  · rw [if_pos c]
  · rw [if_neg c, ud_ne (by omega)]
theorem SM.ps {calm : Bool} : ∀ n, SM W (psF calm W n).1 := by
  intro n
  induction n with
  | zero => exact fun _ _ h => h
  | succ n ih =>
    have g : SM W (psW calm (psF calm W n).1) := fun d hd h1 => psW_st.trans (ih d hd h1)
    show SM W (psS calm (psF calm W n) n).1
    unfold psS
    by_cases c : calm = false ∧ rm100 (drawV (seedF ((psF calm W n).1 10))) < (psF calm W n).1 6
    · rw [if_pos c]
      exact g
    · rw [if_neg c]
      exact SM.wd g _
theorem SM.ds {calm : Bool} : ∀ n, SM W (dsW calm cd fc fn nl W n) := by
  intro n
  induction n with
  | zero => exact fun _ _ h => h
  | succ n ih =>
    intro d hd h1
    show dyP cd fc fn nl (dayW calm (gwL cd fc fn nl) (dsW calm cd fc fn nl W n)) (23 + 6 * d + 5) = 1
    rw [dyP_st hd]
    show nwD (gwL cd fc fn nl) (psF calm (dsW calm cd fc fn nl W n) (pn (dsW calm cd fc fn nl W n))).1 (23 + 6 * d + 5) = 1
    rw [nwD_st]
    exact SM.ps _ d hd (ih d hd h1)
theorem nd_cnt {n : Nat} (hn : n ≤ 12) {F G : Nat → Int32} (hF : ∀ d, d < n → F d = V (23 + 6 * d + 5)) (hG : ∀ d, d < n → G d = W (23 + 6 * d + 5)) (m : SM W V) : bcF (inS n F 1 &&& (inS n G 1 ^^^ (-1))) + nI (dC n W) = nI (dC n V) := by
  unfold inS
  rw [bs_congr (P := fun d => decide (F d = 1)) (P' := fun d => decide (V (23 + 6 * d + 5) = 1)) fun d hd => by rw [hF d hd], bs_congr (P := fun d => decide (G d = 1)) (P' := fun d => decide (W (23 + 6 * d + 5) = 1)) fun d hd => by rw [hG d hd], bs_andn hn, bc_bs hn, nI_addl]
  unfold dC
  rw [cntF_n (P := fun d => decide (V (23 + 6 * d + 5) = 1)) (Q := fun d => decide (W (23 + 6 * d + 5) = 1)) fun d hd z => decide_eq_true (m d (by omega) (of_decide_eq_true z))]
theorem h_worksY (hG : Rg (I 421)) (hq : p < pn (I 421)) (hH : HHd (I 429) taken 0 p) {n : Nat} (hn : dn (I 421) ≤ n) : Sp S m_X12_works 18 0 0 [.ref 420, .int (nI p)] (hp I L w1 w2 t) (fun v h' => ∃ x, v = some (.int x) ∧ x + nI (dC n (I 421)) = nI (dC n (wdF (nI p) taken (I 421, I 421 (11 + 2 * p + 1), 0) (dn (I 421))).1) ∧ ∃ J, h' = hp J L w1 w2 t ∧ (∀ q, q ≠ 421 → q ≠ 429 → J q = I q) ∧ J 421 = (wdF (nI p) taken (I 421, I 421 (11 + 2 * p + 1), 0) (dn (I 421))).1 ∧ HHd (J 429) taken (wdF (nI p) taken (I 421, I 421 (11 + 2 * p + 1), 0) (dn (I 421))).2.2 p) nX := by
  generalize hW : I 421 = W at hG hq hn ⊢
  have h12 := hG.1.2.1
  have h6 := hG.1.1
  have ok0 : WdOk W (W, W (11 + 2 * p + 1), 0) := ⟨hG, rfl, rfl, (hG.2.2.1 p hq).2, fun _ _ => rfl⟩
  refine Sp_of ok_X12_works rfl rfl ?_
  show AW S m_X12_works 18 _ _ 0 0 0 [some (.ref 420), some (.int (nI p)), none, none, none, none] [] (hp I L w1 w2 t)
  refine a_l0 rfl rfl rfl ?_
  refine a_l1 rfl rfl rfl ?_
  refine a_s rfl rfl ?_
  refine a_eV1 rfl lX12_252 mo_X12_ofPerson (sp_X12_ofPerson (d := p) (k := 1) (by omega) (by decide)) rfl rfl rfl ⟨12, _, rfl, rfl, rfl⟩ rfl ?_
  refine a_top (y := W (11 + 2 * p + 1)) (congrFun hW _) ?_
  refine a_s2 rfl rfl rfl rfl rfl rfl ?_
  refine a_s rfl rfl ?_
  refine a_s3 rfl rfl rfl rfl rfl rfl ?_
  refine a_s rfl rfl ?_
  refine a_s4 rfl rfl rfl rfl rfl rfl ?_
  generalize hs0 : ((W, W (11 + 2 * p + 1), 0) : WdT) = s0 at ok0 ⊢
  refine a_inv (n := dn W) (fun m ls h => ∃ j y J, ls = [some (.ref 420), some (.int (nI p)), some (.int (wdF (nI p) taken s0 j).2.1), some (.int y), some (.int (nI j)), none] ∧ h = hp J L w1 w2 t ∧ j ≤ dn W ∧ m = dn W - j ∧ y + nI (dC n W) = nI (dC n (wdF (nI p) taken s0 j).1) ∧ J 421 = (wdF (nI p) taken s0 j).1 ∧ HHd (J 429) taken (wdF (nI p) taken s0 j).2.2 p ∧ ∀ q, q ≠ 421 → q ≠ 429 → J q = I q) ⟨0, 0, I, by rw [← hs0]; rfl, rfl, Nat.zero_le _, rfl, by rw [← hs0]; exact Int32.zero_add _, by rw [← hs0]; exact hW, by rw [← hs0]; exact hH, fun _ _ _ => rfl⟩ ?_
  rintro m _ _ ⟨j, y, J, rfl, rfl, hj, hm, hy, eJ, hHJ, hf⟩ ih
  have okj := ok0.run (p := nI p) (taken := taken) j hj
  refine a_l4 rfl rfl rfl ?_
  refine a_l0 rfl rfl rfl ?_
  refine a_eV1 rfl lX12_74 mo_X12_duties sp_X12_duties rfl rfl rfl ⟨12, _, rfl, rfl, rfl⟩ rfl ?_
  refine a_top (y := nI (dn W)) (by rw [eJ, okj.1.1.2.2.2, okj.2.2.1]) ?_
  refine a_ic_ge rfl (fun c => ?_) (fun c => ?_)
  · have hge := nI_ge_of c (by omega) (by omega)
    obtain rfl : j = dn W := by omega
    refine a_l3 rfl rfl rfl ?_
    exact a_iret rfl rfl ⟨_, rfl, hy, J, rfl, hf, eJ, hHJ⟩
  have hjn := nI_lt_of c (by omega) (by omega)
  have es : wdF (nI p) taken s0 (j + 1) = wdS (nI p) taken (wdF (nI p) taken s0 j) j := rfl
  -- the loop goes on
  have on : ∀ (K : Nat → Nat → Int32) (v : Option Value) (y : Int32), y + nI (dC n W) = nI (dC n (wdF (nI p) taken s0 (j + 1)).1) → K 421 = (wdF (nI p) taken s0 (j + 1)).1 → HHd (K 429) taken (wdF (nI p) taken s0 (j + 1)).2.2 p → (∀ q, q ≠ 421 → q ≠ 429 → K q = I q) → AW S m_X12_works 18 (fun v h' => ∃ x, v = some (.int x) ∧ x + nI (dC n W) = nI (dC n (wdF (nI p) taken s0 (dn W)).1) ∧ ∃ J, h' = hp J L w1 w2 t ∧ (∀ q, q ≠ 421 → q ≠ 429 → J q = I q) ∧ J 421 = (wdF (nI p) taken s0 (dn W)).1 ∧ HHd (J 429) taken (wdF (nI p) taken s0 (dn W)).2.2 p) nX 0 0 139 [some (.ref 420), some (.int (nI p)), some (.int (wdF (nI p) taken s0 (j + 1)).2.1), some (.int y), some (.int (nI j)), v] [] (hp K L w1 w2 t) := by
    intro K v y hy hK hHK hfK
    refine a_iv4 (y := nI (j + 1)) rfl rfl rfl ((nI_succ j).symm) ?_
    refine a_goto rfl ?_
    exact a_less (ih (dn W - (j + 1)) _ _ (by omega) ⟨j + 1, y, K, rfl, rfl, by omega, rfl, hy, hK, hHK, hfK⟩) ⟨rfl, rfl, rfl, rfl, rfl, trivial⟩
  have skip : (¬ (0 < (wdF (nI p) taken s0 j).2.1 ∧ (wdF (nI p) taken s0 j).1 (23 + 6 * j + 0) = nI p ∧ readyR (wdF (nI p) taken s0 j).1 j = true ∧ hasF taken ((wdF (nI p) taken s0 j).1 (23 + 6 * j + 3)) = false)) → wdF (nI p) taken s0 (j + 1) = wdF (nI p) taken s0 j := fun z => if_neg z
  generalize hsj : wdF (nI p) taken s0 j = sj at eJ hHJ okj es skip on hy ⊢
  have gj : ∀ k, J 421 k = sj.1 k := fun k => congrFun eJ k
  have nj : dn sj.1 = dn W := okj.2.2.1
  have dj := okj.1.2.2.2 j (by omega)
  have next : ∀ v, wdF (nI p) taken s0 (j + 1) = sj → AW S m_X12_works 18 (fun v h' => ∃ x, v = some (.int x) ∧ x + nI (dC n W) = nI (dC n (wdF (nI p) taken s0 (dn W)).1) ∧ ∃ J, h' = hp J L w1 w2 t ∧ (∀ q, q ≠ 421 → q ≠ 429 → J q = I q) ∧ J 421 = (wdF (nI p) taken s0 (dn W)).1 ∧ HHd (J 429) taken (wdF (nI p) taken s0 (dn W)).2.2 p) nX 0 0 139 [some (.ref 420), some (.int (nI p)), some (.int sj.2.1), some (.int y), some (.int (nI j)), v] [] (hp J L w1 w2 t) := fun v e => by
    have on := on J v y (by rw [e]; exact hy) (by rw [e]; exact eJ) (by rw [e]; exact hHJ) hf
    rw [e] at on
    exact on
  refine a_l0 rfl rfl rfl ?_
  refine a_l4 rfl rfl rfl ?_
  refine a_s rfl rfl ?_
  refine a_eV1 rfl lX12_63 mo_X12_of (sp_X12_of (d := j) (k := 0) (by omega) (by decide)) rfl rfl rfl ⟨12, _, rfl, rfl, rfl⟩ rfl ?_
  refine a_top (y := sj.1 (23 + 6 * j + 0)) (gj _) ?_
  refine a_l1 rfl rfl rfl ?_
  refine a_ic_ne rfl (fun c3 => ?_) (fun c3 => ?_)
  · exact next _ (skip fun z => c3 z.2.1)
  refine a_l0 rfl rfl rfl ?_
  refine a_l4 rfl rfl rfl ?_
  refine a_eV1 rfl lX12_273 mo_X12_isReady (sp_X12_isReady (nd := dn W) h12 hjn (by rw [eJ, ← nj]; exact okj.1.so.l)) rfl rfl rfl ⟨12, _, rfl, rfl, rfl⟩ rfl ?_
  obtain ⟨z, hz⟩ : ∃ z, readyR sj.1 j = z := ⟨_, rfl⟩
  refine a_top (y := bI z) (by rw [eJ, ← hz]; rfl) ?_
  cases z with
  | false =>
    refine a_if_eq rfl (fun _ => ?_) (fun c => absurd rfl c)
    exact next _ (skip fun y => by rw [hz] at y; exact Bool.false_ne_true y.2.2.1)
  | true =>
  refine a_if_eq rfl (fun c => absurd c (by decide)) (fun _ => ?_)
  refine a_l0 rfl rfl rfl ?_
  refine a_l4 rfl rfl rfl ?_
  refine a_l1 rfl rfl rfl ?_
  refine a_eV1 rfl lX12_367 mo_X12_hasTool (h_hasTool (W := sj.1) (had := sj.2.2) eJ (by omega) hHJ dj.2.2.2.1 (by omega)) rfl rfl rfl ⟨12, _, rfl, rfl, rfl⟩ rfl ?_
  obtain ⟨z2, hz2⟩ : ∃ z, hasF taken (sj.1 (23 + 6 * j + 3)) = z := ⟨_, rfl⟩
  rw [hz2]
  cases z2 with
  | true =>
    refine a_if_ne rfl (fun c => absurd rfl c) (fun _ => ?_)
    refine a_goto rfl ?_
    exact next _ (skip fun y => by rw [hz2] at y; exact absurd y.2.2.2 (by decide))
  | false =>
  refine a_if_ne rfl (fun _ => ?_) (fun c => absurd c (by decide))
  obtain ⟨hh, hh9, eh⟩ := okj.2.2.2.1
  obtain ⟨-, ⟨l, hl, el, e1⟩, -, htl, -⟩ := dj
  have st0 := readyR_0 hz
  have l1 : 1 ≤ l := by
    rcases l with _ | l
    · have := e1.mpr rfl
      rw [st0] at this
      exact absurd this (by decide)
    · omega
  have em : mn sj.2.1 (sj.1 (23 + 6 * j + 1)) = nI (min hh l) := by rw [eh, el, mn_nI (by omega) (by omega)]
  refine a_l2 rfl rfl rfl ?_
  refine a_l0 rfl rfl rfl ?_
  refine a_l4 rfl rfl rfl ?_
  refine a_s rfl rfl ?_
  refine a_eV1 rfl lX12_63 mo_X12_of (sp_X12_of (d := j) (k := 1) (by omega) (by decide)) rfl rfl rfl ⟨12, _, rfl, rfl, rfl⟩ rfl ?_
  refine a_top (y := sj.1 (23 + 6 * j + 1)) (gj _) ?_
  refine a_min rfl lX12_295 mj_min rfl rfl ?_
  refine a_top (y := nI (min hh l)) (em) ?_
  refine a_s5 rfl rfl rfl rfl rfl rfl ?_
  -- behind the tool: hours, left, perhaps done
  have k96 : ∀ (K : Nat → Nat → Int32), K 421 = sj.1 → (∀ q, q ≠ 421 → q ≠ 429 → K q = I q) → (hh = 0 → HHd (K 429) taken sj.2.2 p) → (¬ hh = 0 → HHd (K 429) taken (sj.2.2 ||| bitF (sj.1 (23 + 6 * j + 3))) p) → AW S m_X12_works 18 (fun v h' => ∃ x, v = some (.int x) ∧ x + nI (dC n W) = nI (dC n (wdF (nI p) taken s0 (dn W)).1) ∧ ∃ J, h' = hp J L w1 w2 t ∧ (∀ q, q ≠ 421 → q ≠ 429 → J q = I q) ∧ J 421 = (wdF (nI p) taken s0 (dn W)).1 ∧ HHd (J 429) taken (wdF (nI p) taken s0 (dn W)).2.2 p) nX 0 0 96 [some (.ref 420), some (.int (nI p)), some (.int sj.2.1), some (.int y), some (.int (nI j)), some (.int (nI (min hh l)))] [] (hp K L w1 w2 t) := by
    intro K eK hfK hH0 hH1
    refine a_l2 rfl rfl rfl ?_
    refine a_l5 rfl rfl rfl ?_
    refine a_s rfl rfl ?_
    refine a_top (y := nI (hh - min hh l)) (by rw [eh, nI_sub (by omega)]) ?_
    refine a_s2 rfl rfl rfl rfl rfl rfl ?_
    refine a_l0 rfl rfl rfl ?_
    refine a_getq rfl gfX12_13_12 rfl (rfl) ?_
    refine a_l4 rfl rfl rfl ?_
    refine a_s rfl rfl ?_
    refine a_eS1 rfl lX12_60 mo_X12_at (sp_X12_at (d := j) (k := 1)) rfl rfl rfl rfl ?_
    refine a_s rfl rfl ?_
    refine a_ialdv (v := nI l) rfl (n := 2033) rfl (inI_nI (by omega) (by omega)) (by rw [nI_clamp (by omega), eK, el]) ?_
    refine a_l5 rfl rfl rfl ?_
    refine a_s rfl rfl ?_
    refine a_top (y := nI (l - min hh l)) (nI_sub (by omega)) ?_
    refine a_iastv (k := 23 + 6 * j + 1) rfl (n := 2033) rfl (inI_nI (by omega) (by omega)) (nI_clamp (by omega)) ?_
    have eK1 : up2 K 421 (23 + 6 * j + 1) (nI (l - min hh l)) 421 = ud sj.1 (23 + 6 * j + 1) (nI (l - min hh l)) := by rw [up2_ud, eK]
    refine a_l0 rfl rfl rfl ?_
    refine a_l4 rfl rfl rfl ?_
    refine a_s rfl rfl ?_
    refine a_eV1 rfl lX12_63 mo_X12_of (sp_X12_of (d := j) (k := 1) (by omega) (by decide)) rfl rfl rfl ⟨12, _, rfl, rfl, rfl⟩ rfl ?_
    refine a_top (y := nI (l - min hh l)) (up2_at) ?_
    by_cases h0 : hh = 0
    · -- no hours: nothing
      have ec : ¬ (0 < sj.2.1 ∧ sj.1 (23 + 6 * j + 0) = nI p ∧ readyR sj.1 j = true ∧ hasF taken (sj.1 (23 + 6 * j + 3)) = false) := fun z => by
        have := z.1
        rw [eh, h0] at this
        exact absurd this (by decide)
      have e := skip ec
      refine a_if_le rfl (fun c => ?_) (fun _ => ?_)
      · exfalso
        have := Int32.le_iff_toInt_le.mp c
        rw [nI_toInt (by omega), show (0 : Int32).toInt = 0 from rfl] at this
        omega
      have on := on (up2 K 421 (23 + 6 * j + 1) (nI (l - min hh l))) (some (.int (nI (min hh l)))) y (by rw [e]; exact hy) (by rw [eK1, e, show l - min hh l = l by omega, ← el]; exact ud_same) (by rw [e, up2_row (by decide)]; exact hH0 h0) (fun q h1 h2 => by rw [up2_row h1]; exact hfK q h1 h2)
      rw [e, eh, show nI hh = nI (hh - min hh l) by rw [h0]; rfl] at on
      refine a_goto rfl ?_
      exact on
    have ec : 0 < sj.2.1 ∧ sj.1 (23 + 6 * j + 0) = nI p ∧ readyR sj.1 j = true ∧ hasF taken (sj.1 (23 + 6 * j + 3)) = false := ⟨by
      rw [eh, Int32.lt_iff_toInt_lt, nI_toInt (by omega)]
      show (0 : Int) < _
      omega, c3, hz, hz2⟩
    have ex : sj.1 (23 + 6 * j + 1) - mn sj.2.1 (sj.1 (23 + 6 * j + 1)) = nI (l - min hh l) := by rw [em, el, nI_sub (by omega)]
    have eh2 : sj.2.1 - mn sj.2.1 (sj.1 (23 + 6 * j + 1)) = nI (hh - min hh l) := by rw [em, eh, nI_sub (by omega)]
    by_cases c0 : nI (l - min hh l) = 0
    · refine a_if_le rfl (fun _ => ?_) (fun c => absurd (by rw [c0]; exact Int32.le_refl _) c)
      have ew : wdF (nI p) taken s0 (j + 1) = (ud (ud (ud sj.1 (23 + 6 * j + 1) (nI (l - min hh l))) (23 + 6 * j + 1) 0) (23 + 6 * j + 5) 1, nI (hh - min hh l), sj.2.2 ||| bitF (sj.1 (23 + 6 * j + 3))) := by
        rw [es]
        unfold wdS
        rw [if_pos ec, ex, eh2, if_pos c0]
      rw [ew] at on
      refine a_l0 rfl rfl rfl ?_
      refine a_l4 rfl rfl rfl ?_
      refine a_eV0 rfl lX12_360 mo_X12_finishes (h_finishes (i := j) (by omega)) rfl rfl rfl ⟨12, _, rfl, rfl, rfl⟩ rfl ?_
      refine a_i3 rfl rfl rfl ?_
      exact on _ _ _ (by rw [dC_fin (by omega) st0, nI_succ, ← hy, ad_r]) (by rw [up2_ud, up2_ud, eK1]) (by rw [up2_row (by decide), up2_row (by decide), up2_row (by decide)]; exact hH1 h0) (fun q h1 h2 => by rw [up2_row h1, up2_row h1, up2_row h1]; exact hfK q h1 h2)
    · refine a_if_le rfl (fun c => ?_) (fun _ => ?_)
      · exfalso
        have := Int32.le_iff_toInt_le.mp c
        rw [nI_toInt (by omega), show (0 : Int32).toInt = 0 from rfl] at this
        exact c0 (by rw [show l - min hh l = 0 by omega]; rfl)
      have ew : wdF (nI p) taken s0 (j + 1) = (ud sj.1 (23 + 6 * j + 1) (nI (l - min hh l)), nI (hh - min hh l), sj.2.2 ||| bitF (sj.1 (23 + 6 * j + 3))) := by
        rw [es]
        unfold wdS
        rw [if_pos ec, ex, eh2, if_neg c0]
      rw [ew] at on
      refine a_goto rfl ?_
      exact on _ _ _ (by rw [dC_lf]; exact hy) eK1 (by rw [up2_row (by decide)]; exact hH1 h0) (fun q h1 h2 => by rw [up2_row h1]; exact hfK q h1 h2)
  refine a_l5 rfl rfl rfl ?_
  refine a_if_le rfl (fun c4 => ?_) (fun c4 => ?_)
  · have h0 : hh = 0 := by
      have := Int32.le_iff_toInt_le.mp c4
      rw [nI_toInt (by omega), show (0 : Int32).toInt = 0 from rfl] at this
      omega
    exact k96 J eJ hf (fun _ => hHJ) (fun z => absurd h0 z)
  have h0 : ¬ hh = 0 := fun z => c4 (by rw [z, Nat.zero_min]; decide)
  refine a_l0 rfl rfl rfl ?_
  refine a_l4 rfl rfl rfl ?_
  refine a_s rfl rfl ?_
  refine a_eV1 rfl lX12_63 mo_X12_of (sp_X12_of (d := j) (k := 3) (by omega) (by decide)) rfl rfl rfl ⟨12, _, rfl, rfl, rfl⟩ rfl ?_
  refine a_top (y := sj.1 (23 + 6 * j + 3)) (gj _) ?_
  refine a_s rfl rfl ?_
  refine a_ic_eq rfl (fun c5 => ?_) (fun c5 => ?_)
  · exact k96 J eJ hf (fun z => absurd z h0) (fun _ => by rw [c5, bitF_no, or_0]; exact hHJ)
  obtain ⟨k, hk, ek⟩ := htl.resolve_left c5
  refine a_l0 rfl rfl rfl ?_
  refine a_getq rfl gfX12_42_12 rfl (rfl) ?_
  refine a_l0 rfl rfl rfl ?_
  refine a_l4 rfl rfl rfl ?_
  refine a_s rfl rfl ?_
  refine a_eV1 rfl lX12_63 mo_X12_of (sp_X12_of (d := j) (k := 3) (by omega) (by decide)) rfl rfl rfl ⟨12, _, rfl, rfl, rfl⟩ rfl ?_
  refine a_top (y := nI k) ((gj _).trans ek) ?_
  refine a_l1 rfl rfl rfl ?_
  refine a_iastv (k := k) rfl (n := 6) rfl (inI_nI (by omega) (by omega)) (nI_clamp (by omega)) ?_
  refine k96 _ ((up2_row (by decide)).trans eJ) (fun q h1 h2 => by rw [up2_row h2]; exact hf q h1 h2) (fun z => absurd z h0) (fun _ => ?_)
  rw [up2_ud, ek]
  exact HHd.tk hHJ (by omega) (by rw [← ek]; exact hz2)
theorem h_oneDay140Y (h421 : I 421 = W) (hG : Rg W) (hL : LawR W nl len cd fc fn) (hN : LwN W nl) {calm : Bool} {Q : Option Value → aH → Prop} {X : String → aH → Prop} (kk : ∀ (J : Nat → Nat → Int32) (y : Int32) (u : Option Value), y + nI (dC (dn W) W) = nI (dC (dn W) (dayW calm (gwL cd fc fn nl) W)) → (∀ q, q ≠ 421 → q ≠ 428 → q ≠ 429 → J q = I q) → J 421 = dayW calm (gwL cd fc fn nl) W → AW S m_X12_oneDay 23 Q X 0 0 140 [some (.ref 420), some (.int (bI calm)), some (.int y), u] [] (hp J L w1 w2 t)) : AW S m_X12_oneDay 23 Q X 0 0 0 [some (.ref 420), some (.int (bI calm)), none, none] [] (hp I L w1 w2 t) := by
  have h12 := hG.1.2.1
  have h6 := hG.1.1
  have ok0 : DyOk nl W W := ⟨hG, rfl, rfl, hN, rfl, fun _ _ => rfl⟩
  refine a_s rfl rfl ?_
  refine a_s2 rfl rfl rfl rfl rfl rfl ?_
  refine a_s rfl rfl ?_
  refine a_s3 rfl rfl rfl rfl rfl rfl ?_
  -- nobody has a tool
  refine a_inv (n := 6) (fun m ls h => ∃ j J, ls = [some (.ref 420), some (.int (bI calm)), some (.int 0), some (.int (nI j))] ∧ h = hp J L w1 w2 t ∧ j ≤ 6 ∧ m = 6 - j ∧ (∀ k, k < j → J 429 k = -1) ∧ ∀ q, q ≠ 429 → J q = I q) ⟨0, I, rfl, rfl, by decide, rfl, fun k hk => absurd hk (Nat.not_lt_zero _), fun _ _ => rfl⟩ ?_
  rintro m _ _ ⟨j, J, rfl, rfl, hj, hm, h429, hf⟩ ih
  refine a_l3 rfl rfl rfl ?_
  refine a_s rfl rfl ?_
  refine a_ic_ge rfl (fun c => ?_) (fun c => ?_)
  rotate_left
  · have hj6 := nI_lt_of (b := 6) c (by omega) (by decide)
    refine a_l0 rfl rfl rfl ?_
    refine a_getq rfl gfX12_42_12 rfl (rfl) ?_
    refine a_l3 rfl rfl rfl ?_
    refine a_s rfl rfl ?_
    refine a_iastv (k := j) rfl (n := 6) rfl (inI_nI hj6 (by decide)) (nI_clamp (by omega)) ?_
    refine a_iv3 (y := nI (j + 1)) rfl rfl rfl ((nI_succ j).symm) ?_
    refine a_goto rfl ?_
    refine ih (6 - (j + 1)) _ _ (by omega) ⟨j + 1, _, rfl, rfl, by omega, rfl, fun k hk => ?_, fun q hq => by rw [up2_row hq]; exact hf q hq⟩
    by_cases ck : k = j
    · rw [ck, up2_at]
    · rw [up2_ne (Or.inr ck)]
      exact h429 k (by omega)
  have hge := nI_ge_of (b := 6) c (by omega) (by decide)
  obtain rfl : j = 6 := by omega
  clear ih c hge
  have z0 : ∀ k, k < 6 → hasF 0 (nI k) = false := fun k hk => hasF_0 (by omega)
  have H0 : HHd (J 429) 0 0 0 := fun k hk => ⟨fun z => absurd z (by rw [z0 k hk]; exact Bool.false_ne_true), fun _ z => absurd z (by rw [z0 k hk]; exact Bool.false_ne_true), fun _ _ => h429 k hk⟩
  have J421 : J 421 = W := (hf 421 (by decide)).trans h421
  refine a_s rfl rfl ?_
  refine a_s3 rfl rfl rfl rfl rfl rfl ?_
  refine a_inv (n := pn W) (fun m ls h => ∃ j y K, ls = [some (.ref 420), some (.int (bI calm)), some (.int y), some (.int (nI j))] ∧ h = hp K L w1 w2 t ∧ j ≤ pn W ∧ m = pn W - j ∧ y + nI (dC (dn W) W) = nI (dC (dn W) (psF calm W j).1) ∧ K 421 = (psF calm W j).1 ∧ HHd (K 429) (psF calm W j).2 0 j ∧ ∀ q, q ≠ 421 → q ≠ 428 → q ≠ 429 → K q = I q) ⟨0, 0, J, rfl, rfl, Nat.zero_le _, rfl, Int32.zero_add _, J421, H0, fun q _ _ h3 => hf q h3⟩ ?_
  clear hm h429 hj
  rintro m _ _ ⟨j, y, K, rfl, rfl, hj, hm, hy, eK, hHK, hfK⟩ ih
  have okj := psF_ok (calm := calm) ok0 j hj
  refine a_l3 rfl rfl rfl ?_
  refine a_l0 rfl rfl rfl ?_
  refine a_eV1 rfl lX12_66 mo_X12_people sp_X12_people rfl rfl rfl ⟨12, _, rfl, rfl, rfl⟩ rfl ?_
  refine a_top (y := nI (pn W)) (by rw [eK, okj.1.1.2.2.1, okj.2.1]) ?_
  refine a_ic_ge rfl (fun c => ?_) (fun c => ?_)
  · have hge := nI_ge_of c (by omega) (by omega)
    obtain rfl : j = pn W := by omega
    clear ih
    have fin : dayW calm (gwL cd fc fn nl) W = nwD (gwL cd fc fn nl) (psF calm W (pn W)).1 := rfl
    have hyD : y + nI (dC (dn W) W) = nI (dC (dn W) (dayW calm (gwL cd fc fn nl) W)) := hy.trans (congrArg nI (dC_eq fun d hd => by rw [fin, nwD_st]).symm)
    clear hy
    generalize psF calm W (pn W) = sj at eK okj fin
    refine a_l0 rfl rfl rfl ?_
    refine a_getq rfl gfX12_13_12 rfl (rfl) ?_
    refine a_s rfl rfl ?_
    refine a_s rfl rfl ?_
    refine a_ialdv (v := sj.1 4) rfl (n := 2033) rfl ⟨by decide, by decide⟩ (congrFun eK 4) ?_
    refine a_s rfl rfl ?_
    refine a_s rfl rfl ?_
    refine a_iastv (k := 4) rfl (n := 2033) rfl ⟨by decide, by decide⟩ rfl ?_
    refine a_l0 rfl rfl rfl ?_
    refine a_getq rfl gfX12_13_12 rfl (rfl) ?_
    refine a_s rfl rfl ?_
    refine a_ialdv (v := sj.1 4 + 1) rfl (n := 2033) rfl ⟨by decide, by decide⟩ up2_at ?_
    refine a_s rfl rfl ?_
    refine a_ic_le rfl (fun c2 => ?_) (fun c2 => ?_)
    · refine kk _ _ _ hyD (fun q h1 h2 h3 => by rw [up2_row h1]; exact hfK q h1 h2 h3) ?_
      rw [fin]
      unfold nwD
      rw [if_neg (Int32.not_lt.mpr c2), up2_ud, eK]
    refine a_l0 rfl rfl rfl ?_
    refine a_getq rfl gfX12_13_12 rfl (rfl) ?_
    refine a_s rfl rfl ?_
    refine a_s rfl rfl ?_
    refine a_iastv (k := 4) rfl (n := 2033) rfl ⟨by decide, by decide⟩ rfl ?_
    refine a_l0 rfl rfl rfl ?_
    refine a_getq rfl gfX12_13_12 rfl (rfl) ?_
    refine a_s rfl rfl ?_
    refine a_s rfl rfl ?_
    refine a_l0 rfl rfl rfl ?_
    refine a_getq rfl gfX12_13_12 rfl (rfl) ?_
    refine a_s rfl rfl ?_
    refine a_ialdv (v := sj.1 5) rfl (n := 2033) rfl ⟨by decide, by decide⟩ ((up2_ne (Or.inr (by decide))).trans ((up2_ne (Or.inr (by decide))).trans (congrFun eK 5))) ?_
    refine a_s rfl rfl ?_
    refine a_s rfl rfl ?_
    refine a_min rfl lX12_295 mj_min rfl rfl ?_
    refine a_top (y := mn 9999 (sj.1 5 + 1)) (rfl) ?_
    refine a_iastv (k := 5) rfl (n := 2033) rfl ⟨by decide, by decide⟩ rfl ?_
    have ok3 := mth_ok okj
    generalize hM : up2 (up2 (up2 K 421 4 (sj.1 4 + 1)) 421 4 1) 421 5 (mn 9999 (sj.1 5 + 1)) = M
    have eM : M 421 = ud (ud (ud sj.1 4 (sj.1 4 + 1)) 4 1) 5 (mn 9999 (sj.1 5 + 1)) := by
      rw [← hM, up2_ud, up2_ud, up2_ud, eK]
    have fM : ∀ q, q ≠ 421 → M q = K q := fun q hq => by rw [← hM, up2_row hq, up2_row hq, up2_row hq]
    have e9 : nwD (gwL cd fc fn nl) sj.1 = gwF (gwL cd fc fn nl) (ud (ud (ud sj.1 4 (sj.1 4 + 1)) 4 1) 5 (mn 9999 (sj.1 5 + 1))) (dn W) := by
      unfold nwD
      rw [if_pos (Int32.not_le.mp c2), okj.2.2.1]
    generalize ud (ud (ud sj.1 4 (sj.1 4 + 1)) 4 1) 5 (mn 9999 (sj.1 5 + 1)) = V at eM e9 ok3
    clear hM
    have okV : GwOk nl V V := ⟨ok3.1, rfl, rfl, ok3.2.2.2.1, fun _ _ => rfl⟩
    have nV : dn V = dn W := ok3.2.2.1
    refine a_s rfl rfl ?_
    refine a_s3 rfl rfl rfl rfl rfl rfl ?_
    refine a_inv (n := dn W) (fun m ls h => ∃ j N, ls = [some (.ref 420), some (.int (bI calm)), some (.int y), some (.int (nI j))] ∧ h = hp N L w1 w2 t ∧ j ≤ dn W ∧ m = dn W - j ∧ N 421 = gwF (gwL cd fc fn nl) V j ∧ ∀ q, q ≠ 421 → q ≠ 428 → q ≠ 429 → N q = I q) ⟨0, M, rfl, rfl, Nat.zero_le _, rfl, eM, fun q h1 h2 h3 => (fM q h1).trans (hfK q h1 h2 h3)⟩ ?_
    clear hm hj
    rintro m _ _ ⟨j, N, rfl, rfl, hj, hm, eN, hfN⟩ ih
    have okg := okV.run (cd := cd) (fa := fc) (fn := fn) j (by omega)
    refine a_l3 rfl rfl rfl ?_
    refine a_l0 rfl rfl rfl ?_
    refine a_eV1 rfl lX12_74 mo_X12_duties sp_X12_duties rfl rfl rfl ⟨12, _, rfl, rfl, rfl⟩ rfl ?_
    refine a_top (y := nI (dn W)) (by rw [eN, okg.1.1.2.2.2, okg.2.2.1, nV]) ?_
    refine a_ic_ge rfl (fun c => ?_) (fun c => ?_)
    · have hge := nI_ge_of c (by omega) (by omega)
      obtain rfl : j = dn W := by omega
      exact kk N y _ hyD hfN (by rw [fin, e9]; exact eN)
    have hjn := nI_lt_of c (by omega) (by omega)
    have lawN : LawR (gwF (gwL cd fc fn nl) V j) nl len cd fc fn := LawR.eq hL ((okg.2.2.2.2 3 (fun d hd => by omega)).trans ok3.2.2.2.2.1) (fun k hk => (okg.2.2.2.2 k (fun d hd => by omega)).trans (ok3.2.2.2.2.2 k hk))
    refine a_l0 rfl rfl rfl ?_
    refine a_l3 rfl rfl rfl ?_
    refine a_gV rfl lX12_379 mo_X12_growsOlder (h_growsOlder (d := j) (nl := nl) (len := len) (cd := cd) (fa := fc) (fn := fn) (by rw [eN]; exact okg.1) (by rw [eN, okg.2.2.1, nV]; exact hjn) (by rw [eN]; exact lawN)) rfl rfl rfl ⟨12, _, rfl, rfl, rfl⟩ rfl (fun v' h' hv => ?_)
    obtain ⟨rfl, N2, rfl, hf2, eN2⟩ := hv
    refine a_iv3 (y := nI (j + 1)) rfl rfl rfl ((nI_succ j).symm) ?_
    refine a_goto rfl ?_
    exact ih (dn W - (j + 1)) _ _ (by omega) ⟨j + 1, N2, rfl, rfl, by omega, rfl, by rw [eN2, eN]; rfl, fun q h1 h2 h3 => (hf2 q h1 h2).trans (hfN q h1 h2 h3)⟩
  have hjn := nI_lt_of c (by omega) (by omega)
  have es : psF calm W (j + 1) = psS calm (psF calm W j) j := rfl
  -- the loop goes on
  have on : ∀ (N : Nat → Nat → Int32) (z : Int32), z + nI (dC (dn W) (psF calm W j).1) = nI (dC (dn W) (psF calm W (j + 1)).1) → N 421 = (psF calm W (j + 1)).1 → HHd (N 429) (psF calm W (j + 1)).2 0 (j + 1) → (∀ q, q ≠ 421 → q ≠ 428 → q ≠ 429 → N q = I q) → AW S m_X12_oneDay 23 Q X 0 0 63 [some (.ref 420), some (.int (bI calm)), some (.int y), some (.int (nI j))] [.int z, .int y] (hp N L w1 w2 t) := by
    intro N z hz hN hHN hfN
    refine a_s rfl rfl ?_
    refine a_s2 rfl rfl rfl rfl rfl rfl ?_
    refine a_iv3 (y := nI (j + 1)) rfl rfl rfl ((nI_succ j).symm) ?_
    refine a_goto rfl ?_
    exact ih (pn W - (j + 1)) _ _ (by omega) ⟨j + 1, _, N, rfl, rfl, by omega, rfl, ad_s hy hz, hN, hHN, hfN⟩
  generalize hsj : psF calm W j = sj at eK hHK okj es on hy ⊢
  have okw := psW_ok (calm := calm) okj
  -- it works
  have wk : ∀ (N : Nat → Nat → Int32), N 421 = psW calm sj.1 → N 429 = K 429 → (∀ q, q ≠ 421 → q ≠ 428 → q ≠ 429 → N q = I q) → ¬ (calm = false ∧ rm100 (drawV (seedF (sj.1 10))) < sj.1 6) → AW S m_X12_oneDay 23 Q X 0 0 58 [some (.ref 420), some (.int (bI calm)), some (.int y), some (.int (nI j))] [.int y] (hp N L w1 w2 t) := by
    intro N hN h9 hfN hc
    refine a_l0 rfl rfl rfl ?_
    refine a_l3 rfl rfl rfl ?_
    refine a_gV rfl lX12_376 mo_X12_works (h_worksY (n := dn W) (taken := sj.2) (p := j) (by rw [hN]; exact okw.1) (by rw [hN, okw.2.1]; exact hjn) (by rw [h9]; exact hHK) (by rw [hN, okw.2.2.1]; exact Nat.le_refl _)) rfl rfl rfl ⟨12, _, rfl, rfl, rfl⟩ rfl (fun v' h' hv => ?_)
    obtain ⟨x, rfl, hx, N2, rfl, hf2, eN2, hH2⟩ := hv
    rw [hN] at eN2 hH2 hx
    rw [show psF calm W (j + 1) = ((wdF (nI j) sj.2 (psW calm sj.1, psW calm sj.1 (11 + 2 * j + 1), 0) (dn (psW calm sj.1))).1, sj.2 ||| (wdF (nI j) sj.2 (psW calm sj.1, psW calm sj.1 (11 + 2 * j + 1), 0) (dn (psW calm sj.1))).2.2) from es.trans (if_neg hc)] at on
    exact on N2 x (by rw [← dC_ps (calm := calm) (W := sj.1)]; exact hx) eN2 (HHd.nx hH2) (fun q h1 h2 h3 => (hf2 q h1 h3).trans (hfN q h1 h2 h3))
  refine a_l2 rfl rfl rfl ?_
  refine a_l1 rfl rfl rfl ?_
  cases calm with
  | true =>
    refine a_if_ne rfl (fun _ => ?_) (fun z => absurd z (by decide))
    exact wk K eK rfl hfK (fun z => by cases z.1)
  | false =>
    refine a_if_ne rfl (fun z => absurd rfl z) (fun _ => ?_)
    refine a_l0 rfl rfl rfl ?_
    refine a_s rfl rfl ?_
    refine a_eV1 rfl lX12_373 mo_X12_drawn h_drawn rfl rfl rfl ⟨12, _, rfl, rfl, rfl⟩ rfl ?_
    have e10 : K 421 10 = sj.1 10 := congrFun eK 10
    rw [e10]
    have eN : up2 K 421 10 (seedF (sj.1 10)) 421 = psW false sj.1 := by rw [up2_ud, eK]; rfl
    refine a_l0 rfl rfl rfl ?_
    refine a_getq rfl gfX12_13_12 rfl (rfl) ?_
    refine a_s rfl rfl ?_
    refine a_ialdv (v := sj.1 6) rfl (n := 2033) rfl ⟨by decide, by decide⟩ ((up2_ne (Or.inr (by decide))).trans (congrFun eK 6)) ?_
    refine a_ic_ge rfl (fun c2 => ?_) (fun c2 => ?_)
    · exact wk _ eN (up2_row (by decide)) (fun q h1 h2 h3 => by rw [up2_row h1]; exact hfK q h1 h2 h3) (fun z => absurd z.2 (Int32.not_lt.mpr c2))
    · refine a_s rfl rfl ?_
      refine a_goto rfl ?_
      rw [show psF false W (j + 1) = (psW false sj.1, sj.2) from es.trans (if_pos ⟨rfl, Int32.not_le.mp c2⟩)] at on
      exact on _ 0 (by rw [dC_ps]; exact Int32.zero_add _) eN (by rw [up2_row (by decide)]; exact HHd.sk hHK) (fun q h1 h2 h3 => by rw [up2_row h1]; exact hfK q h1 h2 h3)
theorem h_oneDayY (h421 : I 421 = W) (hG : Rg W) (hL : LawR W nl len cd fc fn) (hN : LwN W nl) {calm : Bool} : Sp S m_X12_oneDay 23 0 0 [.ref 420, .int (bI calm)] (hp I L w1 w2 t) (fun v h' => ∃ y, v = some (.int y) ∧ y + nI (dC (dn W) W) = nI (dC (dn W) (dyP cd fc fn nl (dayW calm (gwL cd fc fn nl) W))) ∧ ∃ J, h' = hp J L w1 w2 t ∧ (∀ q, q ≠ 421 → q ≠ 428 → q ≠ 429 → J q = I q) ∧ J 421 = dyP cd fc fn nl (dayW calm (gwL cd fc fn nl) W)) nX := by
  refine Sp_of ok_X12_oneDay rfl rfl ?_
  show AW S m_X12_oneDay 23 _ _ 0 0 0 [some (.ref 420), some (.int (bI calm)), none, none] [] (hp I L w1 w2 t)
  refine h_oneDay140Y h421 hG hL hN (fun J y u hy hf eJ => ?_)
  have hy : y + nI (dC (dn W) W) = nI (dC (dn W) (dyP cd fc fn nl (dayW calm (gwL cd fc fn nl) W))) := hy.trans (congrArg nI (dC_eq fun d hd => dyP_st (by have := hG.1.2.1; omega)).symm)
  have ok : DyOk nl W (dayW calm (gwL cd fc fn nl) W) := dayW_ok ⟨hG, rfl, rfl, hN, rfl, fun _ _ => rfl⟩
  generalize dayW calm (gwL cd fc fn nl) W = V at eJ ok hy ⊢
  refine a_l0 rfl rfl rfl ?_
  refine a_getq rfl gfX12_13_12 rfl (rfl) ?_
  refine a_s rfl rfl ?_
  refine a_ialdv (v := V 4) rfl (n := 2033) rfl ⟨by decide, by decide⟩ (congrFun eJ 4) ?_
  refine a_s rfl rfl ?_
  refine a_ic_ne rfl (fun c => ?_) (fun c => ?_)
  · refine a_l2 rfl rfl rfl ?_
    exact a_iret rfl rfl ⟨y, rfl, hy, J, rfl, hf, by unfold dyP; rw [if_neg c]; exact eJ⟩
  refine a_l0 rfl rfl rfl ?_
  refine a_gV rfl lX12_382 mo_X12_goesBy (h_goesBy (nl := nl) (len := len) (cd := cd) (fa := fc) (fn := fn) (by rw [eJ]; exact ok.1) (by rw [eJ]; exact LawR.eq hL ok.2.2.2.2.1 ok.2.2.2.2.2)) rfl rfl rfl ⟨12, _, rfl, rfl, rfl⟩ rfl (fun v' h' hv => ?_)
  obtain ⟨rfl, K, rfl, hfK, eK⟩ := hv
  refine a_l2 rfl rfl rfl ?_
  exact a_iret rfl rfl ⟨y, rfl, hy, K, rfl, fun q h1 h2 h3 => (hfK q h1 h2).trans (hf q h1 h2 h3), by unfold dyP; rw [if_pos c, eK, eJ]⟩
theorem h_goesOnY (h421 : I 421 = W) (hG : Rg W) (hL : LawR W nl len cd fc fn) (hN : LwN W nl) {calm : Bool} {m : Nat} (hm : m ≤ 90) : Sp S m_X12_goesOn 24 0 0 [.ref 420, .int (nI m), .int (bI calm)] (hp I L w1 w2 t) (fun v h' => ∃ y, v = some (.int y) ∧ y + nI (dC (dn W) W) = nI (dC (dn W) (dsW calm cd fc fn nl W m)) ∧ ∃ J, h' = hp J L w1 w2 t ∧ (∀ q, q ≠ 421 → q ≠ 428 → q ≠ 429 → J q = I q) ∧ J 421 = dsW calm cd fc fn nl W m) nX := by
  have ok0 : DsOk nl W W := ⟨hG, rfl, rfl, hN, rfl, fun _ _ => rfl⟩
  refine Sp_of ok_X12_goesOn rfl rfl ?_
  show AW S m_X12_goesOn 24 _ _ 0 0 0 [some (.ref 420), some (.int (nI m)), some (.int (bI calm)), none, none] [] (hp I L w1 w2 t)
  refine a_s rfl rfl ?_
  refine a_s3 rfl rfl rfl rfl rfl rfl ?_
  refine a_s rfl rfl ?_
  refine a_s4 rfl rfl rfl rfl rfl rfl ?_
  refine a_inv (n := m) (fun i ls h => ∃ j y J, ls = [some (.ref 420), some (.int (nI m)), some (.int (bI calm)), some (.int y), some (.int (nI j))] ∧ h = hp J L w1 w2 t ∧ j ≤ m ∧ i = m - j ∧ y + nI (dC (dn W) W) = nI (dC (dn W) (dsW calm cd fc fn nl W j)) ∧ J 421 = dsW calm cd fc fn nl W j ∧ ∀ q, q ≠ 421 → q ≠ 428 → q ≠ 429 → J q = I q) ⟨0, 0, I, rfl, rfl, Nat.zero_le _, rfl, Int32.zero_add _, h421, fun _ _ _ _ => rfl⟩ ?_
  rintro i _ _ ⟨j, y, J, rfl, rfl, hj, hi, hy, eJ, hf⟩ ih
  refine a_l4 rfl rfl rfl ?_
  refine a_l1 rfl rfl rfl ?_
  refine a_ic_ge rfl (fun c => ?_) (fun c => ?_)
  · have hge := nI_ge_of c (by omega) (by omega)
    obtain rfl : j = m := by omega
    refine a_l3 rfl rfl rfl ?_
    exact a_iret rfl rfl ⟨y, rfl, hy, J, rfl, hf, eJ⟩
  have hjm := nI_lt_of c (by omega) (by omega)
  have okj := dsW_ok (calm := calm) (cd := cd) (fa' := fc) (fn := fn) ok0 j
  refine a_l3 rfl rfl rfl ?_
  refine a_l0 rfl rfl rfl ?_
  refine a_l2 rfl rfl rfl ?_
  refine a_gV rfl lX12_385 mo_X12_oneDay (h_oneDayY (calm := calm) eJ okj.1 (LawR.eq hL okj.2.2.2.2.1 okj.2.2.2.2.2) okj.2.2.2.1) rfl rfl rfl ⟨12, _, rfl, rfl, rfl⟩ rfl (fun v' h' hv => ?_)
  obtain ⟨z, rfl, hz, K, rfl, hfK, eK⟩ := hv
  rw [okj.2.2.1] at hz
  refine a_s rfl rfl ?_
  refine a_s3 rfl rfl rfl rfl rfl rfl ?_
  refine a_iv4 (y := nI (j + 1)) rfl rfl rfl ((nI_succ j).symm) ?_
  refine a_goto rfl ?_
  exact ih (m - (j + 1)) _ _ (by omega) ⟨j + 1, _, K, rfl, rfl, by omega, rfl, ad_s hy hz, eK, fun q h1 h2 h3 => (hfK q h1 h2 h3).trans (hf q h1 h2 h3)⟩
theorem h_daysY (hG : Rg (I 421)) (hL : LawR (I 421) nl len cd fc fn) (hN : LwN (I 421) nl) (er : I 420 7 = nI r) (hr12 : r ≤ 12) {x : Int32} : Sp S m_X12_days 25 0 0 [.ref 420, .int x] (hp I L w1 w2 t) (fun v h' => ∃ y, v = some (.int y) ∧ (∀ m, 1 ≤ m → m ≤ 90 → x = nI m → y + nI (dC (dn (I 421)) (I 421)) = nI (dC (dn (I 421)) (dsW false cd fc fn nl (I 421) m))) ∧ ((inB x 1 90 = false ∧ h' = hp (up2 (up2 I 420 0 0) 420 0 1) L w1 w2 t) ∨ ∃ m, 1 ≤ m ∧ m ≤ 90 ∧ x = nI m ∧ ∃ J, h' = hp J L w1 w2 t ∧ (∀ q, q ≠ 421 → q ≠ 428 → q ≠ 429 → J q = remH (up2 I 420 0 0) r q) ∧ J 421 = dsW false cd fc fn nl (I 421) m)) nX := by
  have e21 : up2 I 420 0 0 421 = I 421 := up2_row (by decide)
  have er0 : up2 I 420 0 0 420 7 = nI r := (up2_ne (Or.inr (by decide))).trans er
  refine Sp_of ok_X12_days rfl rfl ?_
  show AW S m_X12_days 25 _ _ 0 0 0 [some (.ref 420), some (.int x)] [] (hp I L w1 w2 t)
  refine a_l0 rfl rfl rfl ?_
  refine a_s rfl rfl ?_
  refine a_puti rfl pfX12_3_12 rfl ?_
  refine a_l0 rfl rfl rfl ?_
  refine a_l1 rfl rfl rfl ?_
  refine a_s rfl rfl ?_
  refine a_s rfl rfl ?_
  refine a_eS1 rfl lX12_70 mo_X12_in sp_X12_in rfl rfl rfl rfl ?_
  obtain ⟨z, hz⟩ : ∃ z, inB x 1 90 = z := ⟨_, rfl⟩
  rw [hz]
  cases z with
  | false =>
    refine a_if_ne rfl (fun c => absurd rfl c) (fun _ => ?_)
    refine a_s rfl rfl ?_
    refine a_goto rfl ?_
    refine a_s rfl rfl ?_
    refine a_eV1 rfl lX12_243 mo_X12_throwsIf (h_throwsIf (z := true)) rfl rfl rfl ⟨12, _, rfl, rfl, rfl⟩ rfl ?_
    rw [if_pos rfl]
    refine a_if_eq rfl (fun c => absurd c (by decide)) (fun _ => ?_)
    refine a_s rfl rfl ?_
    exact a_iret rfl rfl ⟨0, rfl, (fun m m1 m2 ex => by rw [ex, inB90 m (by omega) m1] at hz; cases hz), Or.inl ⟨rfl, rfl⟩⟩
  | true =>
    refine a_if_ne rfl (fun _ => ?_) (fun c => absurd c (by decide))
    refine a_s rfl rfl ?_
    refine a_s rfl rfl ?_
    refine a_eV1 rfl lX12_243 mo_X12_throwsIf (h_throwsIf (z := false)) rfl rfl rfl ⟨12, _, rfl, rfl, rfl⟩ rfl ?_
    rw [if_neg Bool.false_ne_true]
    refine a_if_eq rfl (fun _ => ?_) (fun c => absurd rfl c)
    obtain ⟨z1, z2⟩ := of_decide_eq_true hz
    obtain ⟨m, m1, m2, em⟩ : ∃ m, 1 ≤ m ∧ m ≤ 90 ∧ x = nI m := by
      rw [Int32.le_iff_toInt_le] at z1 z2
      have z1 : (1 : Int) ≤ x.toInt := z1
      have z2 : x.toInt ≤ 90 := z2
      refine ⟨x.toInt.toNat, by omega, by omega, ?_⟩
      rw [← Int32.toInt_inj, nI_toInt (by omega)]
      omega
    subst em
    refine a_l0 rfl rfl rfl ?_
    refine a_eV0 rfl lX12_357 mo_X12_remembers (h_remembers er0 hr12) rfl rfl rfl ⟨12, _, rfl, rfl, rfl⟩ rfl ?_
    have e22 : remH (up2 I 420 0 0) r 421 = I 421 := remH_421.trans e21
    refine a_l0 rfl rfl rfl ?_
    refine a_l1 rfl rfl rfl ?_
    refine a_s rfl rfl ?_
    refine a_gV rfl lX12_388 mo_X12_goesOn (h_goesOnY (calm := false) (m := m) e22 hG hL hN m2) rfl rfl rfl ⟨12, _, rfl, rfl, rfl⟩ rfl (fun v' h' hv => ?_)
    obtain ⟨y, rfl, hy, J, rfl, hf, eJ⟩ := hv
    exact a_iret rfl rfl ⟨y, rfl, (fun m' p1 p2 ex => by obtain rfl := nI_inj (by omega) (by omega) ex; exact hy), Or.inr ⟨m, m1, m2, rfl, J, rfl, hf, eJ⟩⟩
theorem f_daysY (hD : Sd I 235 W) (hLg : Lg I 235 W) (hG : Rg W) (hL : LwS I 246 W nl len cd fc fn) (hN : LwN W nl) (h13 : I 200 13 = nI n) (hn : n ≤ 12) (h12 : I 200 12 = nI fa) (hf : fa < 12) {x : Int32} : Sp S m_X11_days 20 1 6 [.ref 200, .int x] (hp I L w1 w2 t) (fun v h' => ∃ y, v = some (.int y) ∧ ∃ m, 1 ≤ m ∧ m ≤ 90 ∧ x = nI m ∧ (y + nI (dC (dn W) W) = nI (dC (dn W) (dsW false cd fc fn nl W m))) ∧ ∃ J, h' = hp J L w1 w2 t ∧ (∀ q, (q < 235 ∨ 245 < q) → q ≠ 252 → q ≠ 253 → J q = reS I n fa q) ∧ Sd J 235 (dsW false cd fc fn nl W m) ∧ Lg J 235 (dsW false cd fc fn nl W m)) (fun E h' => E = exN 1 ∧ inB x 1 90 = false ∧ h' = hp I L w1 w2 0) := by
  have ok0 : DsOk nl W W := ⟨hG, rfl, rfl, hN, rfl, fun _ _ => rfl⟩
  refine Sp_of ok_X11_days rfl rfl ?_
  show AW S m_X11_days 20 _ _ 1 6 0 [some (.ref 200), some (.int x), none, none] [] (hp I L w1 w2 t)
  refine a_l1 rfl rfl rfl ?_
  refine a_s rfl rfl ?_
  refine a_s rfl rfl ?_
  refine a_callS rfl lX11_250 mo_X11_needNumber (f_needNumber) rfl rfl rfl rfl (fun v' h' hv => ?_) (fun E h' ex => ex)
  obtain ⟨rfl, hz, rfl⟩ := hv
  obtain ⟨z1, z2⟩ := of_decide_eq_true hz
  obtain ⟨m, m1, m2, em⟩ : ∃ m, 1 ≤ m ∧ m ≤ 90 ∧ x = nI m := by
    rw [Int32.le_iff_toInt_le] at z1 z2
    have z1 : (1 : Int) ≤ x.toInt := z1
    have z2 : x.toInt ≤ 90 := z2
    refine ⟨x.toInt.toNat, by omega, by omega, ?_⟩
    rw [← Int32.toInt_inj, nI_toInt (by omega)]
    omega
  subst em
  refine a_l0 rfl rfl rfl ?_
  refine a_eV0 rfl lX11_230 mo_X11_rememberAct (f_remember h13 hn h12 hf) rfl rfl rfl ⟨11, _, rfl, rfl, rfl⟩ rfl ?_
  have rr : ∀ q, q ≠ 200 → q < 288 → reS I n fa q = I q := fun q h1 h2 => reS_row h1 (Or.inl h2)
  have D0 : Sd (reS I n fa) 235 W := Sd.eq hD fun q g1 g2 => rr q (by omega) (by omega)
  have L0 : Lg (reS I n fa) 235 W := Lg.eq hLg (rr 244 (by decide) (by decide)) (rr 245 (by decide) (by decide)) rfl fun _ _ _ => rfl
  have hd3 : reS I n fa 235 3 = nI (dn W) := (Sd.fd D0 (f := 3) (g := 1) (by decide)).trans hG.1.2.2.2
  refine a_l0 rfl rfl rfl ?_
  refine a_getq rfl gfX11_37_11 rfl (rfl) ?_
  refine a_s rfl rfl ?_
  refine a_eV1 rfl lX11_200 mo_X5_bitsIn (sp_X5_bitsIn (nd := dn W) (a := 235) (by decide) hd3 hG.1.2.1) rfl rfl rfl ⟨5, _, rfl, rfl, rfl⟩ rfl ?_
  refine a_s2 rfl rfl rfl rfl rfl rfl ?_
  refine a_s rfl rfl ?_
  refine a_s3 rfl rfl rfl rfl rfl rfl ?_
  generalize hB : inS (dn W) (reS I n fa (235 + 8)) 1 = B
  have row5 : ∀ d, d < dn W → reS I n fa (235 + 8) d = W (23 + 6 * d + 5) := fun d hd => D0.2.2 d (by have := hG.1.2.1; omega) 5 (by decide)
  refine a_inv (n := m) (fun i ls h => ∃ j J, ls = [some (.ref 200), some (.int (nI m)), some (.int B), some (.int (nI j))] ∧ h = hp J L w1 w2 t ∧ j ≤ m ∧ i = m - j ∧ Sd J 235 (dsW false cd fc fn nl W j) ∧ Lg J 235 (dsW false cd fc fn nl W j) ∧ ∀ q, (q < 235 ∨ 245 < q) → q ≠ 252 → q ≠ 253 → J q = reS I n fa q) ⟨0, _, rfl, rfl, Nat.zero_le _, rfl, D0, L0, fun _ _ _ _ => rfl⟩ ?_
  rintro i _ _ ⟨j, J, rfl, rfl, hj, hi, DJ, LJ, hfJ⟩ ih
  have okj := dsW_ok (calm := false) (cd := cd) (fa' := fc) (fn := fn) ok0 j
  refine a_l3 rfl rfl rfl ?_
  refine a_l1 rfl rfl rfl ?_
  refine a_ic_ge rfl (fun c => ?_) (fun c => ?_)
  · have hge := nI_ge_of c (by omega) (by omega)
    obtain rfl : j = m := by omega
    have hd9 : J 235 3 = nI (dn W) := ((Sd.fd DJ (f := 3) (g := 1) (by decide)).trans okj.1.1.2.2.2).trans (by rw [okj.2.2.1])
    refine a_l0 rfl rfl rfl ?_
    refine a_getq rfl gfX11_37_11 rfl (rfl) ?_
    refine a_s rfl rfl ?_
    refine a_eV1 rfl lX11_200 mo_X5_bitsIn (sp_X5_bitsIn (nd := dn W) (a := 235) (by decide) hd9 hG.1.2.1) rfl rfl rfl ⟨5, _, rfl, rfl, rfl⟩ rfl ?_
    refine a_l2 rfl rfl rfl ?_
    refine a_s rfl rfl ?_
    refine a_s rfl rfl ?_
    refine a_s rfl rfl ?_
    refine a_eS1 rfl lX11_261 mo_J6_bitCount_0f7a4 (sp_bitCount) rfl rfl rfl rfl ?_
    exact a_iret rfl rfl ⟨_, rfl, j, m1, m2, rfl, by rw [← hB]; exact nd_cnt hG.1.2.1 (fun d hd => DJ.2.2 d (by have := hG.1.2.1; omega) 5 (by decide)) row5 (SM.ds j), J, rfl, hfJ, DJ, LJ⟩
  have hjm := nI_lt_of c (by omega) (by omega)
  have es : dsW false cd fc fn nl W (j + 1) = dyP cd fc fn nl (dayW false (gwL cd fc fn nl) (dsW false cd fc fn nl W j)) := rfl
  have on : ∀ (K : Nat → Nat → Int32), Sd K 235 (dsW false cd fc fn nl W (j + 1)) → Lg K 235 (dsW false cd fc fn nl W (j + 1)) → (∀ q, (q < 235 ∨ 245 < q) → q ≠ 252 → q ≠ 253 → K q = reS I n fa q) → AW S m_X11_days 20 (fun v h' => ∃ y, v = some (.int y) ∧ ∃ m', 1 ≤ m' ∧ m' ≤ 90 ∧ nI m = nI m' ∧ (y + nI (dC (dn W) W) = nI (dC (dn W) (dsW false cd fc fn nl W m'))) ∧ ∃ J, h' = hp J L w1 w2 t ∧ (∀ q, (q < 235 ∨ 245 < q) → q ≠ 252 → q ≠ 253 → J q = reS I n fa q) ∧ Sd J 235 (dsW false cd fc fn nl W m') ∧ Lg J 235 (dsW false cd fc fn nl W m')) (fun E h' => E = exN 1 ∧ inB (nI m) 1 90 = false ∧ h' = hp I L w1 w2 0) 0 0 54 [some (.ref 200), some (.int (nI m)), some (.int B), some (.int (nI j))] [] (hp K L w1 w2 t) := by
    intro K hK hLK hfK
    refine a_iv3 (y := nI (j + 1)) rfl rfl rfl ((nI_succ j).symm) ?_
    refine a_goto rfl ?_
    exact ih (m - (j + 1)) _ _ (by omega) ⟨j + 1, K, rfl, rfl, by omega, rfl, hK, hLK, hfK⟩
  generalize dsW false cd fc fn nl W j = V at DJ LJ okj es
  have lawJ : LwS J 246 V nl len cd fc fn := LwS.eq hL (fun q g1 g2 => (hfJ q (by omega) (by omega) (by omega)).trans (rr q (by omega) (by omega))) okj.2.2.2.2.1 okj.2.2.2.2.2
  refine a_l0 rfl rfl rfl ?_
  refine a_getq rfl gfX11_37_11 rfl (rfl) ?_
  refine a_l0 rfl rfl rfl ?_
  refine a_getq rfl gfX11_44_11 rfl (rfl) ?_
  refine a_s rfl rfl ?_
  refine a_gV rfl lX11_254 mo_X5_passDay (f_passDay (a := 235) (b := 246) (dr := true) (by decide) (by decide) DJ okj.1 lawJ okj.2.2.2.1) rfl rfl rfl ⟨5, _, rfl, rfl, rfl⟩ rfl (fun v' h' hv => ?_)
  obtain ⟨rfl, K, rfl, hfK, DK⟩ := hv
  have DK : Sd K 235 (dayW false (gwL cd fc fn nl) V) := DK
  have ok1 : DyOk nl V (dayW false (gwL cd fc fn nl) V) := dayW_ok okj.dy
  have LK : Lg K 235 (dayW false (gwL cd fc fn nl) V) := Lg.eq LJ (hfK 244 (by decide) (by decide) (by decide)) (hfK 245 (by decide) (by decide) (by decide)) (dayW_lg okj.dy (Or.inl rfl)) fun k h1 _ => dayW_lg okj.dy (Or.inr h1)
  have lawK : LwS K 246 (dayW false (gwL cd fc fn nl) V) nl len cd fc fn := LwS.eq lawJ (fun q g1 g2 => hfK q (by omega) (by omega) (by omega)) ok1.2.2.2.2.1 ok1.2.2.2.2.2
  have hfK2 : ∀ q, (q < 235 ∨ 245 < q) → q ≠ 252 → q ≠ 253 → K q = reS I n fa q := fun q g1 g2 g3 => (hfK q (by omega) g2 g3).trans (hfJ q g1 g2 g3)
  generalize dayW false (gwL cd fc fn nl) V = U at DK ok1 LK lawK es
  refine a_l0 rfl rfl rfl ?_
  refine a_getq rfl gfX11_37_11 rfl (rfl) ?_
  refine a_getiv (v := U 4) rfl gfX11_185_5 rfl (Sd.fd DK (by decide)) ?_
  refine a_s rfl rfl ?_
  refine a_ic_ne rfl (fun c2 => ?_) (fun c2 => ?_)
  · have e : dsW false cd fc fn nl W (j + 1) = U := by
      rw [es]
      unfold dyP
      rw [if_neg c2]
    exact on K (by rw [e]; exact DK) (by rw [e]; exact LK) hfK2
  have e : dsW false cd fc fn nl W (j + 1) = ltF cd fc fn nl U (dn U) := by
    rw [es]
    unfold dyP
    rw [if_pos c2]
  refine a_l0 rfl rfl rfl ?_
  refine a_gV rfl lX11_258 mo_X11_letParadeGoBy (f_parade DK LK ok1.1 lawK) rfl rfl rfl ⟨11, _, rfl, rfl, rfl⟩ rfl (fun v' h' hv => ?_)
  obtain ⟨rfl, N, rfl, hfN, DN, LN⟩ := hv
  exact on N (by rw [e]; exact DN) (by rw [e]; exact LN) (fun q g1 g2 g3 => (hfN q (by omega) (by omega) g2 g3).trans (hfK2 q g1 g2 g3))
theorem days_ev {k : Nat} {R : Nat → Prop} {R' : Prop} {x y z : Int32} {l : Int64} (hJ : (∃ m, 1 ≤ m ∧ m ≤ 90 ∧ x = nI m ∧ y = 0 ∧ R m) ∨ (inB x 1 90 = false ∧ y = 1 ∧ R')) (hl : ∀ m, 1 ≤ m → m ≤ 90 → x = nI m → ∃ a, l = Int32.toInt64 a ∧ a + nI (dC k W) = nI (dC k (dsW false cd fc fn nl W m))) (hz : ∀ m, 1 ≤ m → m ≤ 90 → x = nI m → z + nI (dC k W) = nI (dC k (dsW false cd fc fn nl W m))) (h0 : y = 0) : l = z.toInt64 := by
  rcases hJ with ⟨m, m1, m2, ex, -⟩ | ⟨-, y1, -⟩
  · obtain ⟨a, rfl, ha⟩ := hl m m1 m2 ex
    have e := ha.trans (hz m m1 m2 ex).symm
    rw [← Int32.add_sub_cancel a (nI (dC k W)), e, Int32.add_sub_cancel]
  · rw [h0] at y1
    exact absurd y1 (by decide)
theorem Sy.daysY (h : Sy I) (hps : PsN I n fa) (ln : LwN (I 421) nl) {x y : Int32} {l : Int64} {ov : Option Value} (u : ∀ q, 420 ≤ q → J q = I q) (hJ : (∃ m, 1 ≤ m ∧ m ≤ 90 ∧ x = nI m ∧ y = 0 ∧ (∀ q, (q < 235 ∨ 245 < q) → q ≠ 252 → q ≠ 253 → J q = reS I n fa q) ∧ Sd J 235 (dsW false cd fc fn nl (I 421) m) ∧ Lg J 235 (dsW false cd fc fn nl (I 421) m)) ∨ (inB x 1 90 = false ∧ y = 1 ∧ J = I)) (jl : ∀ m, 1 ≤ m → m ≤ 90 → x = nI m → ∃ a, l = Int32.toInt64 a ∧ a + nI (dC (dn (I 421)) (I 421)) = nI (dC (dn (I 421)) (dsW false cd fc fn nl (I 421) m))) (hv : ∃ z, ov = some (.int z) ∧ (∀ m, 1 ≤ m → m ≤ 90 → x = nI m → z + nI (dC (dn (I 421)) (I 421)) = nI (dC (dn (I 421)) (dsW false cd fc fn nl (I 421) m))) ∧ ((inB x 1 90 = false ∧ h' = hp (up2 (up2 J 420 0 0) 420 0 1) L w1 w2 t) ∨ ∃ m, 1 ≤ m ∧ m ≤ 90 ∧ x = nI m ∧ ∃ K, h' = hp K L w1 w2 t ∧ (∀ q, q ≠ 421 → q ≠ 428 → q ≠ 429 → K q = remH (up2 J 420 0 0) n q) ∧ K 421 = dsW false cd fc fn nl (I 421) m)) : ∃ z K, ov = some (.int z) ∧ h' = hp K L w1 w2 t ∧ Sy K ∧ K 420 0 = y ∧ (y = 0 → l = z.toInt64) := by
  obtain ⟨z, rfl, ez, hv⟩ := hv
  obtain ⟨_, K, -, e2, s, e0⟩ := Sy.days h hps ln u hJ ⟨z, rfl, hv⟩
  exact ⟨z, K, rfl, e2, s, e0, days_ev hJ jl ez⟩
end T79zzp
