/-! ===== a month more, on the row; both sides do it so ===== -/
section T79y
variable {S : aS} {I : Nat → Nat → Int32} {L : Nat → Nat → Int64} {w1 w2 t : Nat} {a b d nl len : Nat} {cd fa fn : Nat → Nat} {W : Nat → Int32}
set_option maxRecDepth 100000
/-- a duty grows older -/
def gwS (g : (Nat → Int32) → Nat → Int32) (W : Nat → Int32) (d : Nat) : Nat → Int32 :=
  if W (23 + 6 * d + 5) = 1 then W else ud (ud W (23 + 6 * d + 2) (mn 99 (W (23 + 6 * d + 2) + 1))) (23 + 6 * d + 1) (mn 99 (W (23 + 6 * d + 1) + (if W (23 + 6 * d + 5) = 0 then g W d else 0)))
def gwF (g : (Nat → Int32) → Nat → Int32) (W : Nat → Int32) : Nat → Nat → Int32
  | 0 => W
  | n + 1 => gwS g (gwF g W n) n
def gwL (cd fa fn : Nat → Nat) (nl : Nat) (W : Nat → Int32) (d : Nat) : Int32 := sumR W cd fa fn nl d 0
def LwN (W : Nat → Int32) (nl : Nat) : Prop := nl ≤ 12 ∧ ∀ n, n < nl → Nb (nuW W n) 60
theorem sumL_nb {F ki nu : Nat → Int32} {kind : Int32} : ∀ {n : Nat}, n ≤ 12 → (∀ i, i < n → Nb (nu i) 60) → Nb (sumL F ki nu cd fa fn kind n) (60 * n) := by
  intro n
  induction n with
  | zero => exact fun _ _ => ⟨0, Nat.le_refl _, rfl⟩
  | succ n ih =>
    intro hn h
    obtain ⟨k, k1, k2⟩ := ih (by omega) fun i hi => h i (by omega)
    obtain ⟨m, m1, m2⟩ := h n (by omega)
    unfold sumL
    by_cases c : ki n = kind ∧ lineF F cd (fa n) (fn n) = true
    · rw [if_pos c, k2, m2, nI_addl]
      exact ⟨k + m, by omega, rfl⟩
    · rw [if_neg c, k2]
      exact ⟨k, by omega, rfl⟩
theorem gwL_nb (h : LwN W nl) : Nb (gwL cd fa fn nl W d) 720 := by
  obtain ⟨k, k1, k2⟩ := sumL_nb (cd := cd) (fa := fa) (fn := fn) (F := factW W d) (ki := kiW W) (nu := nuW W) (kind := 0) h.1 h.2
  exact ⟨k, by have := h.1; omega, k2⟩
theorem ud_comm {i j : Nat} {x y : Int32} (h : i ≠ j) : ud (ud W i x) j y = ud (ud W j y) i x := by
  funext k
  by_cases c1 : k = i
  · subst c1
    rw [ud_ne h, ud_at, ud_at]
  · rw [ud_ne (W := ud W j y) c1]
    by_cases c2 : k = j
    · subst c2
      rw [ud_at, ud_at]
    · rw [ud_ne c2, ud_ne c2, ud_ne c1]
/-- what holds on the way -/
def GwOk (nl : Nat) (W s : Nat → Int32) : Prop := Rg s ∧ pn s = pn W ∧ dn s = dn W ∧ LwN s nl ∧ ∀ k, (∀ d, d < 12 → k ≠ 23 + 6 * d + 1 ∧ k ≠ 23 + 6 * d + 2) → s k = W k
theorem GwOk.step {s : Nat → Int32} (h : GwOk nl W s) (hd : d < dn W) : GwOk nl W (gwS (gwL cd fa fn nl) s d) := by
  obtain ⟨hG, hp, hdn, hL, hr⟩ := h
  have h12 := hG.1.2.1
  unfold gwS
  by_cases c : s (23 + 6 * d + 5) = 1
  · rw [if_pos c]
    exact ⟨hG, hp, hdn, hL, hr⟩
  rw [if_neg c]
  obtain ⟨⟨h1, h2, h3, h4⟩, hf, hpp, hdd⟩ := id hG
  obtain ⟨b0, ⟨l, hl, el, e1⟩, ⟨ag, ha, ea⟩, b3, b4, b5⟩ := hdd d (by omega)
  have l1 : 1 ≤ l := by
    rcases l with _ | l
    · exact absurd (e1.mpr rfl) c
    · omega
  obtain ⟨g, hg, eg⟩ : ∃ g, g ≤ 720 ∧ (if s (23 + 6 * d + 5) = 0 then gwL cd fa fn nl s d else 0) = nI g := by
    by_cases c0 : s (23 + 6 * d + 5) = 0
    · rw [if_pos c0]
      exact gwL_nb hL
    · rw [if_neg c0]
      exact ⟨0, by decide, rfl⟩
  have ex : mn 99 (s (23 + 6 * d + 1) + (if s (23 + 6 * d + 5) = 0 then gwL cd fa fn nl s d else 0)) = nI (min 99 (l + g)) := by
    rw [eg, el, nI_addl, show (99 : Int32) = nI 99 from rfl, mn_nI (by decide) (by omega)]
  have ey : mn 99 (s (23 + 6 * d + 2) + 1) = nI (min 99 (ag + 1)) := by
    rw [ea, ← nI_succ, show (99 : Int32) = nI 99 from rfl, mn_nI (by decide) (by omega)]
  rw [ex, ey]
  have f : ∀ k, k ≠ 23 + 6 * d + 1 → k ≠ 23 + 6 * d + 2 → ud (ud s (23 + 6 * d + 2) (nI (min 99 (ag + 1)))) (23 + 6 * d + 1) (nI (min 99 (l + g))) k = s k := fun k k1 k2 => by rw [ud_ne k1, ud_ne k2]
  generalize hs' : ud (ud s (23 + 6 * d + 2) (nI (min 99 (ag + 1)))) (23 + 6 * d + 1) (nI (min 99 (l + g))) = s' at f
  have f1 : s' (23 + 6 * d + 1) = nI (min 99 (l + g)) := by rw [← hs', ud_at]
  have f2 : s' (23 + 6 * d + 2) = nI (min 99 (ag + 1)) := by rw [← hs', ud_ne (by omega), ud_at]
  have r : Rg s' := by
    refine Rg.of h1 h2 ((f 0 (by omega) (by omega)).trans h3) ((f 1 (by omega) (by omega)).trans h4) (hf.eq fun k z1 z2 => f k (by omega) (by omega)) (fun p z => (hpp p z).eq (f _ (by omega) (by omega)) (f _ (by omega) (by omega))) (fun e' z => ?_)
    by_cases ce : e' = d
    · subst ce
      unfold RgD
      rw [f (23 + 6 * e' + 0) (by omega) (by omega), f (23 + 6 * e' + 3) (by omega) (by omega), f (23 + 6 * e' + 4) (by omega) (by omega), f (23 + 6 * e' + 5) (by omega) (by omega), f1, f2]
      exact ⟨b0, ⟨min 99 (l + g), by omega, rfl, ⟨fun z => absurd z c, fun z => by omega⟩⟩, ⟨min 99 (ag + 1), by omega, rfl⟩, b3, b4, b5⟩
    · exact (hdd e' z).eq fun k hk => f _ (by omega) (by omega)
  refine ⟨r, ?_, ?_, ⟨hL.1, fun n hn => ?_⟩, fun k hk => (f k (hk d (by omega)).1 (hk d (by omega)).2).trans (hr k hk)⟩
  · rw [← hp]
    unfold pn
    rw [f 0 (by omega) (by omega)]
  · rw [← hdn]
    unfold dn
    rw [f 1 (by omega) (by omega)]
  · rw [show nuW s' n = nuW s n from f _ (by omega) (by omega)]
    exact hL.2 n hn
theorem GwOk.run {s : Nat → Int32} (h : GwOk nl W s) : ∀ n, n ≤ dn W → GwOk nl W (gwF (gwL cd fa fn nl) s n) := by
  intro n
  induction n with
  | zero => exact fun _ => h
  | succ n ih => exact fun hn => (ih (by omega)).step (by omega)
theorem LawR.eq {W' : Nat → Int32} (h : LawR W nl len cd fa fn) (e3 : W' 3 = W 3) (e : ∀ k, 335 ≤ k → W' k = W k) : LawR W' nl len cd fa fn := by
  obtain ⟨h1, h2, h3, h4, h5⟩ := h
  refine ⟨?_, h2, h3, fun i hi => ?_, fun n hn => ?_⟩
  · rw [e3, e 335 (Nat.le_refl _)]
    exact h1
  · rw [e _ (by omega), e _ (by omega)]
    exact h4 i hi
  · rw [e _ (by omega), e _ (by omega)]
    exact h5 n hn
theorem LawC.eq {J : Nat → Nat → Int32} (h : LawC I b nl len cd fa fn) (f : ∀ q, b ≤ q → q ≤ b + 5 → J q = I q) : LawC J b nl len cd fa fn := by
  unfold LawC
  rw [f b (by omega) (by omega), f (b + 3) (by omega) (by omega), f (b + 4) (by omega) (by omega), f (b + 5) (by omega) (by omega)]
  exact h
theorem LwS.eq {J : Nat → Nat → Int32} {W' : Nat → Int32} (h : LwS I b W nl len cd fa fn) (f : ∀ q, b ≤ q → q ≤ b + 5 → J q = I q) (e3 : W' 3 = W 3) (e : ∀ k, 335 ≤ k → W' k = W k) : LwS J b W' nl len cd fa fn := by
  obtain ⟨h1, h2, h3, h4⟩ := h
  refine ⟨LawC.eq h1 f, LawR.eq h2 e3 e, fun n hn => ?_, ?_⟩
  · rw [f (b + 1) (by omega) (by omega), f (b + 2) (by omega) (by omega), show kiW W' n = kiW W n from e _ (by omega), show nuW W' n = nuW W n from e _ (by omega)]
    exact h3 n hn
  · rw [f b (by omega) (by omega), e3]
    exact h4
theorem h_growsOlder (hG : Rg (I 421)) (hd : d < dn (I 421)) (hL : LawR (I 421) nl len cd fa fn) : Sp S m_X12_growsOlder 20 0 0 [.ref 420, .int (nI d)] (hp I L w1 w2 t) (fun v h' => v = none ∧ ∃ J, h' = hp J L w1 w2 t ∧ (∀ q, q ≠ 421 → q ≠ 428 → J q = I q) ∧ J 421 = gwS (gwL cd fa fn nl) (I 421) d) nX := by
  generalize hW : I 421 = W at hG hd hL ⊢
  have h12 := hG.1.2.1
  have h6 := hG.1.1
  refine Sp_of ok_X12_growsOlder rfl rfl ?_
  show AW S m_X12_growsOlder 20 _ _ 0 0 0 [some (.ref 420), some (.int (nI d)), none] [] (hp I L w1 w2 t)
  refine a_l0 rfl rfl rfl ?_
  refine a_l1 rfl rfl rfl ?_
  refine a_eV1 rfl lX12_246 mo_X12_isDone (sp_X12_isDone (d := d) (by omega)) rfl rfl rfl ⟨12, _, rfl, rfl, rfl⟩ rfl ?_
  rw [show vd (I 421) 5 d = W (23 + 6 * d + 5) from congrFun hW _]
  by_cases c : W (23 + 6 * d + 5) = 1
  · rw [decide_eq_true c]
    refine a_if_eq rfl (fun z => absurd z (by decide)) (fun _ => ?_)
    exact a_vret rfl rfl ⟨rfl, I, rfl, fun _ _ _ => rfl, by unfold gwS; rw [if_pos c]; exact hW⟩
  rw [decide_eq_false c]
  refine a_if_eq rfl (fun _ => ?_) (fun z => absurd rfl z)
  have fin : ∀ (K : Nat → Nat → Int32) (g : Int32), K 421 = W → (∀ q, q ≠ 421 → q ≠ 428 → K q = I q) → g = (if W (23 + 6 * d + 5) = 0 then gwL cd fa fn nl W d else 0) → AW S m_X12_growsOlder 20 (fun v h' => v = none ∧ ∃ J, h' = hp J L w1 w2 t ∧ (∀ q, q ≠ 421 → q ≠ 428 → J q = I q) ∧ J 421 = gwS (gwL cd fa fn nl) W d) nX 0 0 26 [some (.ref 420), some (.int (nI d)), none] [.int g] (hp K L w1 w2 t) := by
    intro K g eK hf hg
    refine a_s2 rfl rfl rfl rfl rfl rfl ?_
    refine a_l0 rfl rfl rfl ?_
    refine a_getq rfl gfX12_13_12 rfl (rfl) ?_
    refine a_l1 rfl rfl rfl ?_
    refine a_s rfl rfl ?_
    refine a_eS1 rfl lX12_60 mo_X12_at (sp_X12_at (d := d) (k := 2)) rfl rfl rfl rfl ?_
    refine a_s rfl rfl ?_
    refine a_l0 rfl rfl rfl ?_
    refine a_l1 rfl rfl rfl ?_
    refine a_s rfl rfl ?_
    refine a_eV1 rfl lX12_63 mo_X12_of (sp_X12_of (d := d) (k := 2) (by omega) (by decide)) rfl rfl rfl ⟨12, _, rfl, rfl, rfl⟩ rfl ?_
    refine a_top (y := W (23 + 6 * d + 2)) (congrFun eK _) ?_
    refine a_s rfl rfl ?_
    refine a_s rfl rfl ?_
    refine a_min rfl lX12_295 mj_min rfl rfl ?_
    refine a_top (y := mn 99 (W (23 + 6 * d + 2) + 1)) (rfl) ?_
    refine a_iastv (k := 23 + 6 * d + 2) rfl (n := 2033) rfl (inI_nI (by omega) (by omega)) (nI_clamp (by omega)) ?_
    refine a_l0 rfl rfl rfl ?_
    refine a_getq rfl gfX12_13_12 rfl (rfl) ?_
    refine a_l1 rfl rfl rfl ?_
    refine a_s rfl rfl ?_
    refine a_eS1 rfl lX12_60 mo_X12_at (sp_X12_at (d := d) (k := 1)) rfl rfl rfl rfl ?_
    refine a_s rfl rfl ?_
    refine a_l0 rfl rfl rfl ?_
    refine a_l1 rfl rfl rfl ?_
    refine a_s rfl rfl ?_
    refine a_eV1 rfl lX12_63 mo_X12_of (sp_X12_of (d := d) (k := 1) (by omega) (by decide)) rfl rfl rfl ⟨12, _, rfl, rfl, rfl⟩ rfl ?_
    refine a_top (y := W (23 + 6 * d + 1)) ((up2_ne (Or.inr (by omega))).trans (congrFun eK _)) ?_
    refine a_l2 rfl rfl rfl ?_
    refine a_s rfl rfl ?_
    refine a_min rfl lX12_295 mj_min rfl rfl ?_
    refine a_top (y := mn 99 (W (23 + 6 * d + 1) + g)) (rfl) ?_
    refine a_iastv (k := 23 + 6 * d + 1) rfl (n := 2033) rfl (inI_nI (by omega) (by omega)) (nI_clamp (by omega)) ?_
    exact a_vret rfl rfl ⟨rfl, _, rfl, fun q h1 h2 => by rw [up2_row h1, up2_row h1]; exact hf q h1 h2, by unfold gwS; rw [if_neg c, up2_ud, up2_ud, eK, hg]⟩
  refine a_l0 rfl rfl rfl ?_
  refine a_l1 rfl rfl rfl ?_
  refine a_eV1 rfl lX12_135 mo_X12_isWaiting (sp_X12_isWaiting (d := d) (by omega)) rfl rfl rfl ⟨12, _, rfl, rfl, rfl⟩ rfl ?_
  rw [show vd (I 421) 5 d = W (23 + 6 * d + 5) from congrFun hW _]
  by_cases c0 : W (23 + 6 * d + 5) = 0
  · rw [decide_eq_true c0]
    refine a_if_eq rfl (fun z => absurd z (by decide)) (fun _ => ?_)
    refine a_l0 rfl rfl rfl ?_
    refine a_l1 rfl rfl rfl ?_
    refine a_gV rfl lX12_351 mo_X12_growsBy (sp_X12_growsBy (nd := dn W) (np := pn W) h12 h6 hd (by rw [hW]; exact hG.so.l) (by rw [hW]; exact hG.so.o) (by rw [hW]; exact hL)) rfl rfl rfl ⟨12, _, rfl, rfl, rfl⟩ rfl (fun v' h' hv => ?_)
    obtain ⟨rfl, f, rfl⟩ := hv
    refine a_goto rfl ?_
    exact fin _ _ ((upr_row (by decide)).trans hW) (fun q h1 h2 => upr_row h2) (by rw [if_pos c0, hW]; rfl)
  · rw [decide_eq_false c0]
    refine a_if_eq rfl (fun _ => ?_) (fun z => absurd rfl z)
    refine a_s rfl rfl ?_
    exact fin I 0 hW (fun _ _ _ => rfl) (by rw [if_neg c0])
end T79y
