/-! ===== a day more, on the row; the class does it so ===== -/
section T79z
variable {S : aS} {I : Nat → Nat → Int32} {L : Nat → Nat → Int64} {w1 w2 t : Nat} {a b d nl len : Nat} {cd fa fn : Nat → Nat} {W : Nat → Int32} {taken had : Int32}
set_option maxRecDepth 100000
def rm100 (x : Int32) : Int32 := x - x / 100 * 100
abbrev PsT : Type := (Nat → Int32) × Int32
/-- a person's turn; calm: without draws -/
def psW (calm : Bool) (W : Nat → Int32) : Nat → Int32 := if calm = true then W else ud W 10 (seedF (W 10))
def psS (calm : Bool) (s : PsT) (p : Nat) : PsT :=
  if calm = false ∧ rm100 (drawV (seedF (s.1 10))) < s.1 6 then (psW calm s.1, s.2)
  else ((wdF (nI p) s.2 (psW calm s.1, psW calm s.1 (11 + 2 * p + 1), 0) (dn (psW calm s.1))).1, s.2 ||| (wdF (nI p) s.2 (psW calm s.1, psW calm s.1 (11 + 2 * p + 1), 0) (dn (psW calm s.1))).2.2)
def psF (calm : Bool) (W : Nat → Int32) : Nat → PsT
  | 0 => (W, 0)
  | n + 1 => psS calm (psF calm W n) n
def nwD (g : (Nat → Int32) → Nat → Int32) (W : Nat → Int32) : Nat → Int32 := if 30 < W 4 + 1 then gwF g (ud (ud (ud W 4 (W 4 + 1)) 4 1) 5 (mn 9999 (W 5 + 1))) (dn W) else ud W 4 (W 4 + 1)
def dayW (calm : Bool) (g : (Nat → Int32) → Nat → Int32) (W : Nat → Int32) : Nat → Int32 := nwD g (psF calm W (pn W)).1
/-- ranges, and what a day never changes -/
def DyOk (nl : Nat) (W s : Nat → Int32) : Prop := Rg s ∧ pn s = pn W ∧ dn s = dn W ∧ LwN s nl ∧ s 3 = W 3 ∧ ∀ k, 335 ≤ k → s k = W k
theorem LwN.eq {s : Nat → Int32} (h : LwN W nl) (e : ∀ k, 335 ≤ k → s k = W k) : LwN s nl := ⟨h.1, fun n hn => by
  rw [show nuW s n = nuW W n from e _ (by omega)]
  exact h.2 n hn⟩
theorem Rg.hi (h : Rg W) {k : Nat} {v : Int32} (hk : k = 10) : Rg (ud W k v) ∧ pn (ud W k v) = pn W ∧ dn (ud W k v) = dn W := by
  subst hk
  obtain ⟨⟨h1, h2, h3, h4⟩, hf, hp, hdd⟩ := h
  have f : ∀ j, j ≠ 10 → ud W 10 v j = W j := fun j hj => ud_ne hj
  exact ⟨Rg.of h1 h2 ((f 0 (by omega)).trans h3) ((f 1 (by omega)).trans h4) (hf.eq fun k z1 z2 => f k (by omega)) (fun p z => (hp p z).eq (f _ (by omega)) (f _ (by omega))) (fun e' z => (hdd e' z).eq fun k hk => f _ (by omega)), by unfold pn; rw [f 0 (by omega)], by unfold dn; rw [f 1 (by omega)]⟩
theorem psW_ok {calm : Bool} {s : Nat → Int32} (h : DyOk nl W s) : DyOk nl W (psW calm s) := by
  unfold psW
  by_cases c : calm = true
  · rw [if_pos c]
    exact h
  rw [if_neg c]
  obtain ⟨hG, hp, hd, hL, h3, hk⟩ := h
  obtain ⟨g1, g2, g3⟩ := Rg.hi (v := seedF (s 10)) hG rfl
  exact ⟨g1, g2.trans hp, g3.trans hd, LwN.eq hL fun k hk => ud_ne (by omega), (ud_ne (by omega)).trans h3, fun k z => (ud_ne (by omega)).trans (hk k z)⟩
theorem wd_ok {s : Nat → Int32} {p : Nat} (h : DyOk nl W s) (hp : p < pn W) : DyOk nl W (wdF (nI p) taken (s, s (11 + 2 * p + 1), 0) (dn s)).1 := by
  obtain ⟨hG, hpn, hd, hL, h3, hk⟩ := h
  obtain ⟨g1, g2, g3, -, g5⟩ := WdOk.run (p := nI p) (taken := taken) (W := s) (s := (s, s (11 + 2 * p + 1), 0)) ⟨hG, rfl, rfl, (hG.2.2.1 p (by omega)).2, fun _ _ => rfl⟩ (dn s) (Nat.le_refl _)
  exact ⟨g1, g2.trans hpn, g3.trans hd, LwN.eq hL fun k hk => g5 k (fun d hd => by omega), (g5 3 (fun d hd => by omega)).trans h3, fun k z => (g5 k (fun d hd => by omega)).trans (hk k z)⟩
theorem psF_ok {calm : Bool} (h : DyOk nl W W) : ∀ n, n ≤ pn W → DyOk nl W (psF calm W n).1 := by
  intro n
  induction n with
  | zero => exact fun _ => h
  | succ n ih =>
    intro hn
    have ih := ih (by omega)
    show DyOk nl W (psS calm (psF calm W n) n).1
    unfold psS
    by_cases c : calm = false ∧ rm100 (drawV (seedF ((psF calm W n).1 10))) < (psF calm W n).1 6
    · rw [if_pos c]
      exact psW_ok ih
    · rw [if_neg c]
      exact wd_ok (psW_ok ih) (by omega)
theorem Rg.day (h : Rg W) {x y : Nat} (hx1 : 1 ≤ x) (hx : x ≤ 30) (hy : y ≤ 9999) {W' : Nat → Int32} (e4 : W' 4 = nI x) (e5 : W' 5 = nI y) (f : ∀ k, k ≠ 4 → k ≠ 5 → W' k = W k) : Rg W' ∧ pn W' = pn W ∧ dn W' = dn W := by
  obtain ⟨⟨h1, h2, h3, h4⟩, ⟨f2, f4, f5, f6, f7, f8⟩, hp, hdd⟩ := h
  refine ⟨Rg.of h1 h2 ((f 0 (by omega) (by omega)).trans h3) ((f 1 (by omega) (by omega)).trans h4) ?_ (fun p z => (hp p z).eq (f _ (by omega) (by omega)) (f _ (by omega) (by omega))) (fun e' z => (hdd e' z).eq fun k hk => f _ (by omega) (by omega)), by unfold pn; rw [f 0 (by omega) (by omega)], by unfold dn; rw [f 1 (by omega) (by omega)]⟩
  unfold RgF
  rw [f 2 (by decide) (by decide), e4, e5, f 6 (by decide) (by decide), f 7 (by decide) (by decide), f 8 (by decide) (by decide)]
  exact ⟨f2, ⟨x, hx1, hx, rfl⟩, ⟨y, hy, rfl⟩, f6, f7, f8⟩
theorem mth_ok {s : Nat → Int32} (h : DyOk nl W s) : DyOk nl W (ud (ud (ud s 4 (s 4 + 1)) 4 1) 5 (mn 9999 (s 5 + 1))) := by
  obtain ⟨hG, hp, hd, hL, h3, hk⟩ := h
  obtain ⟨m, m1, m2⟩ := hG.2.1.2.2.1
  have f : ∀ k, k ≠ 4 → k ≠ 5 → ud (ud (ud s 4 (s 4 + 1)) 4 1) 5 (mn 9999 (s 5 + 1)) k = s k := fun k k4 k5 => by rw [ud_ne k5, ud_ne k4, ud_ne k4]
  obtain ⟨g1, g2, g3⟩ := Rg.day (x := 1) (y := min 9999 (m + 1)) hG (by decide) (by decide) (by omega) (by rw [ud_ne (by decide), ud_at]; rfl) (by rw [ud_at, m2, ← nI_succ, show (9999 : Int32) = nI 9999 from rfl, mn_nI (by decide) (by omega)]) f
  exact ⟨g1, g2.trans hp, g3.trans hd, LwN.eq hL fun k hk => f k (by omega) (by omega), (f 3 (by decide) (by decide)).trans h3, fun k z => (f k (by omega) (by omega)).trans (hk k z)⟩
theorem nwD_ok {s : Nat → Int32} (h : DyOk nl W s) : DyOk nl W (nwD (gwL cd fa fn nl) s) := by
  unfold nwD
  by_cases c : 30 < s 4 + 1
  · rw [if_pos c]
    obtain ⟨hG, hp, hd, hL, h3, hk⟩ := mth_ok h
    obtain ⟨g1, g2, g3, g4, g5⟩ := GwOk.run (cd := cd) (fa := fa) (fn := fn) (nl := nl) ⟨hG, rfl, rfl, hL, fun _ _ => rfl⟩ (dn s) (by rw [hd, h.2.2.1]; exact Nat.le_refl _)
    exact ⟨g1, g2.trans hp, g3.trans hd, g4, (g5 3 (fun d hd => by omega)).trans h3, fun k z => (g5 k (fun d hd => by omega)).trans (hk k z)⟩
  · rw [if_neg c]
    obtain ⟨hG, hp, hd, hL, h3, hk⟩ := h
    obtain ⟨x, x1, x2, x3⟩ := hG.2.1.2.1
    obtain ⟨m, m1, m2⟩ := hG.2.1.2.2.1
    have f : ∀ k, k ≠ 4 → k ≠ 5 → ud s 4 (s 4 + 1) k = s k := fun k k4 k5 => ud_ne k4
    have x30 : x + 1 ≤ 30 := by
      have c := Int32.not_lt.mp c
      rw [x3, ← nI_succ, Int32.le_iff_toInt_le, nI_toInt (by omega)] at c
      have c : ((x + 1 : Nat) : Int) ≤ 30 := c
      omega
    obtain ⟨g1, g2, g3⟩ := Rg.day (x := x + 1) (y := m) hG (by omega) x30 m1 (by rw [ud_at, x3, ← nI_succ]) (by rw [ud_ne (by decide)]; exact m2) f
    exact ⟨g1, g2.trans hp, g3.trans hd, LwN.eq hL fun k hk => f k (by omega) (by omega), (f 3 (by decide) (by decide)).trans h3, fun k z => (f k (by omega) (by omega)).trans (hk k z)⟩
theorem dayW_ok {calm : Bool} (h : DyOk nl W W) : DyOk nl W (dayW calm (gwL cd fa fn nl) W) := nwD_ok (psF_ok h _ (Nat.le_refl _))
theorem f_passDay (ha : stp a) (hb : lwp b) (hD : Sd I a W) (hG : Rg W) (hL : LwS I b W nl len cd fa fn) (hN : LwN W nl) {dr : Bool} : Sp S m_X5_passDay 19 0 0 [.ref a, .ref b, .int (bI dr)] (hp I L w1 w2 t) (fun v h' => v = none ∧ ∃ J, h' = hp J L w1 w2 t ∧ (∀ q, (q < a ∨ a + 8 < q) → q ≠ b + 6 → q ≠ b + 7 → J q = I q) ∧ Sd J a (dayW (!dr) (gwL cd fa fn nl) W)) nX := by
  have h12 := hG.1.2.1
  have h6 := hG.1.1
  have hab := stp_lwp a ha b hb
  have ok0 : DyOk nl W W := ⟨hG, rfl, rfl, hN, rfl, fun _ _ => rfl⟩
  refine Sp_of ok_X5_passDay rfl rfl ?_
  show AW S m_X5_passDay 19 _ _ 0 0 0 [some (.ref a), some (.ref b), some (.int (bI dr)), none, none, none] [] (hp I L w1 w2 t)
  refine a_s rfl rfl ?_
  refine a_s3 rfl rfl rfl rfl rfl rfl ?_
  refine a_s rfl rfl ?_
  refine a_s4 rfl rfl rfl rfl rfl rfl ?_
  refine a_inv (n := pn W) (fun m ls h => ∃ j J, ls = [some (.ref a), some (.ref b), some (.int (bI dr)), some (.int (psF (!dr) W j).2), some (.int (nI j)), none] ∧ h = hp J L w1 w2 t ∧ j ≤ pn W ∧ m = pn W - j ∧ Sd J a (psF (!dr) W j).1 ∧ ∀ q, (q < a ∨ a + 8 < q) → q ≠ b + 6 → q ≠ b + 7 → J q = I q) ⟨0, I, rfl, rfl, Nat.zero_le _, rfl, hD, fun _ _ _ _ => rfl⟩ ?_
  rintro m _ _ ⟨j, J, rfl, rfl, hj, hm, hDJ, hf⟩ ih
  have okj := psF_ok (calm := !dr) ok0 j hj
  have hpj : J a 0 = nI (pn W) := ((Sd.fd hDJ (f := 0) (g := 0) (by decide)).trans okj.1.1.2.2.1).trans (by rw [okj.2.1])
  refine a_l4 rfl rfl rfl ?_
  refine a_l0 rfl rfl rfl ?_
  refine a_getiv (v := nI (pn W)) rfl gfX5_56_5 (kS0 ha) hpj ?_
  refine a_ic_ge rfl (fun c => ?_) (fun c => ?_)
  · have hge := nI_ge_of c (by omega) (by omega)
    obtain rfl : j = pn W := by omega
    show AW S m_X5_passDay 19 (fun v h' => v = none ∧ ∃ J, h' = hp J L w1 w2 t ∧ (∀ q, (q < a ∨ a + 8 < q) → q ≠ b + 6 → q ≠ b + 7 → J q = I q) ∧ Sd J a (nwD (gwL cd fa fn nl) (psF (!dr) W (pn W)).1)) nX 0 0 60 _ _ _
    generalize psF (!dr) W (pn W) = sj at hDJ okj
    have e4 : J a 10 = sj.1 4 := Sd.fd hDJ (by decide)
    have e5 : J a 11 = sj.1 5 := Sd.fd hDJ (by decide)
    refine a_l0 rfl rfl rfl ?_
    refine a_s rfl rfl ?_
    refine a_getiv (v := sj.1 4) rfl gfX5_36_5 (kS0 ha) e4 ?_
    refine a_s rfl rfl ?_
    refine a_s rfl rfl ?_
    refine a_puti rfl pfX5_36_5 (kS0 ha) ?_
    have D1 : Sd (up2 J a 10 (sj.1 4 + 1)) a (ud sj.1 4 (sj.1 4 + 1)) := Sd.pu hDJ (by decide)
    refine a_l0 rfl rfl rfl ?_
    refine a_getiv (v := sj.1 4 + 1) rfl gfX5_36_5 (kS0 ha) up2_at ?_
    refine a_s rfl rfl ?_
    refine a_ic_le rfl (fun c2 => ?_) (fun c2 => ?_)
    · refine a_vret rfl rfl ⟨rfl, _, rfl, fun q g1 g2 g3 => by rw [up2_row (by omega)]; exact hf q g1 g2 g3, ?_⟩
      unfold nwD
      rw [if_neg (Int32.not_lt.mpr c2)]
      exact D1
    refine a_l0 rfl rfl rfl ?_
    refine a_s rfl rfl ?_
    refine a_puti rfl pfX5_36_5 (kS0 ha) ?_
    refine a_l0 rfl rfl rfl ?_
    refine a_s rfl rfl ?_
    refine a_l0 rfl rfl rfl ?_
    refine a_getiv (v := sj.1 5) rfl gfX5_66_5 (kS0 ha) ((up2_ne (Or.inr (by decide))).trans ((up2_ne (Or.inr (by decide))).trans e5)) ?_
    refine a_s rfl rfl ?_
    refine a_s rfl rfl ?_
    refine a_min rfl lX5_127 mj_min rfl rfl ?_
    refine a_top (y := mn 9999 (sj.1 5 + 1)) (rfl) ?_
    refine a_puti rfl pfX5_66_5 (kS0 ha) ?_
    have D3 : Sd (up2 (up2 (up2 J a 10 (sj.1 4 + 1)) a 10 1) a 11 (mn 9999 (sj.1 5 + 1))) a (ud (ud (ud sj.1 4 (sj.1 4 + 1)) 4 1) 5 (mn 9999 (sj.1 5 + 1))) := Sd.pu (Sd.pu D1 (by decide)) (by decide)
    have ok3 := mth_ok okj
    refine a_l0 rfl rfl rfl ?_
    refine a_l1 rfl rfl rfl ?_
    refine a_gV rfl lX5_140 mo_X5_passMonth (f_passMonth ha hb D3 ok3.1 (LwS.eq hL (fun q g1 g2 => by rw [up2_row (by omega), up2_row (by omega), up2_row (by omega)]; exact hf q (by omega) (by omega) (by omega)) ok3.2.2.2.2.1 ok3.2.2.2.2.2) ok3.2.2.2.1) rfl rfl rfl ⟨5, _, kS0 ha, rfl, rfl⟩ rfl (fun v' h' hv => ?_)
    obtain ⟨rfl, K, rfl, hfK, hDK⟩ := hv
    refine a_vret rfl rfl ⟨rfl, K, rfl, fun q g1 g2 g3 => by rw [hfK q (by omega) (by omega) g2 g3, up2_row (by omega), up2_row (by omega), up2_row (by omega)]; exact hf q g1 g2 g3, ?_⟩
    unfold nwD
    rw [if_pos (Int32.not_le.mp c2)]
    rw [ok3.2.2.1, ← okj.2.2.1] at hDK
    exact hDK
  have hjn := nI_lt_of c (by omega) (by omega)
  have es : psF (!dr) W (j + 1) = psS (!dr) (psF (!dr) W j) j := rfl
  -- the loop goes on
  have on : ∀ (K : Nat → Nat → Int32) (v : Option Value), Sd K a (psF (!dr) W (j + 1)).1 → (∀ q, (q < a ∨ a + 8 < q) → q ≠ b + 6 → q ≠ b + 7 → K q = I q) → AW S m_X5_passDay 19 (fun v h' => v = none ∧ ∃ J, h' = hp J L w1 w2 t ∧ (∀ q, (q < a ∨ a + 8 < q) → q ≠ b + 6 → q ≠ b + 7 → J q = I q) ∧ Sd J a (dayW (!dr) (gwL cd fa fn nl) W)) nX 0 0 54 [some (.ref a), some (.ref b), some (.int (bI dr)), some (.int (psF (!dr) W (j + 1)).2), some (.int (nI j)), v] [] (hp K L w1 w2 t) := by
    intro K v hK hfK
    refine a_iv4 (y := nI (j + 1)) rfl rfl rfl ((nI_succ j).symm) ?_
    refine a_goto rfl ?_
    exact a_less (ih (pn W - (j + 1)) _ _ (by omega) ⟨j + 1, K, rfl, rfl, by omega, rfl, hK, hfK⟩) ⟨rfl, rfl, rfl, rfl, rfl, trivial⟩
  generalize hsj : psF (!dr) W j = sj at hDJ okj es on ⊢
  have okw := psW_ok (calm := !dr) okj
  -- it works
  have wk : ∀ (K : Nat → Nat → Int32), Sd K a (psW (!dr) sj.1) → (∀ q, (q < a ∨ a + 8 < q) → q ≠ b + 6 → q ≠ b + 7 → K q = I q) → ¬ ((!dr) = false ∧ rm100 (drawV (seedF (sj.1 10))) < sj.1 6) → AW S m_X5_passDay 19 (fun v h' => v = none ∧ ∃ J, h' = hp J L w1 w2 t ∧ (∀ q, (q < a ∨ a + 8 < q) → q ≠ b + 6 → q ≠ b + 7 → J q = I q) ∧ Sd J a (dayW (!dr) (gwL cd fa fn nl) W)) nX 0 0 36 [some (.ref a), some (.ref b), some (.int (bI dr)), some (.int sj.2), some (.int (nI j)), none] [] (hp K L w1 w2 t) := by
    intro K hK hfK hc
    refine a_s rfl rfl ?_
    refine a_s5 rfl rfl rfl rfl rfl rfl ?_
    refine a_l5 rfl rfl rfl ?_
    refine a_if_ne rfl (fun z => absurd rfl z) (fun _ => ?_)
    refine a_l3 rfl rfl rfl ?_
    refine a_l0 rfl rfl rfl ?_
    refine a_l4 rfl rfl rfl ?_
    refine a_l3 rfl rfl rfl ?_
    refine a_gV rfl lX5_137 mo_X5_work (f_work (taken := sj.2) ha hK okw.1 (by rw [okw.2.1]; exact hjn)) rfl rfl rfl ⟨5, _, kS0 ha, rfl, rfl⟩ rfl (fun v' h' hv => ?_)
    obtain ⟨rfl, K2, rfl, hfK2, hDK2⟩ := hv
    rw [show psF (!dr) W (j + 1) = ((wdF (nI j) sj.2 (psW (!dr) sj.1, psW (!dr) sj.1 (11 + 2 * j + 1), 0) (dn (psW (!dr) sj.1))).1, sj.2 ||| (wdF (nI j) sj.2 (psW (!dr) sj.1, psW (!dr) sj.1 (11 + 2 * j + 1), 0) (dn (psW (!dr) sj.1))).2.2) from es.trans (if_neg hc)] at on
    refine a_s rfl rfl ?_
    refine a_s3 rfl rfl rfl rfl rfl rfl ?_
    exact on K2 _ hDK2 (fun q g1 g2 g3 => (hfK2 q (by omega) (by omega)).trans (hfK q g1 g2 g3))
  refine a_l2 rfl rfl rfl ?_
  cases dr with
  | false =>
    refine a_if_eq rfl (fun _ => ?_) (fun z => absurd rfl z)
    exact wk J hDJ hf (fun z => by cases z.1)
  | true =>
    refine a_if_eq rfl (fun z => absurd z (by decide)) (fun _ => ?_)
    refine a_l0 rfl rfl rfl ?_
    refine a_eV1 rfl lX5_133 mo_X5_draw (sp_X5_draw ha) rfl rfl rfl ⟨5, _, kS0 ha, rfl, rfl⟩ rfl ?_
    have e15 : J a 15 = sj.1 10 := Sd.fd hDJ (by decide)
    rw [e15]
    have DK : Sd (up2 J a 15 (seedF (sj.1 10))) a (psW (!true) sj.1) := Sd.pu hDJ (by decide)
    have hfK : ∀ q, (q < a ∨ a + 8 < q) → q ≠ b + 6 → q ≠ b + 7 → up2 J a 15 (seedF (sj.1 10)) q = I q := fun q g1 g2 g3 => by rw [up2_row (by omega)]; exact hf q g1 g2 g3
    refine a_s rfl rfl ?_
    refine a_irem rfl (by decide) ?_
    refine a_top (y := rm100 (drawV (seedF (sj.1 10)))) (rfl) ?_
    refine a_l0 rfl rfl rfl ?_
    refine a_getiv (v := sj.1 6) rfl gfX5_69_5 (kS0 ha) ((up2_ne (Or.inr (by decide))).trans (Sd.fd hDJ (by decide))) ?_
    refine a_ic_ge rfl (fun c2 => ?_) (fun c2 => ?_)
    · exact wk _ DK hfK (fun z => absurd z.2 (Int32.not_lt.mpr c2))
    · refine a_s rfl rfl ?_
      refine a_goto rfl ?_
      refine a_s5 rfl rfl rfl rfl rfl rfl ?_
      refine a_l5 rfl rfl rfl ?_
      refine a_if_ne rfl (fun _ => ?_) (fun z => absurd z (by decide))
      rw [show psF (!true) W (j + 1) = (psW (!true) sj.1, sj.2) from es.trans (if_pos ⟨rfl, Int32.not_le.mp c2⟩)] at on
      exact on _ _ DK hfK
end T79z
