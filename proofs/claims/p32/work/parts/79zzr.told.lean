/-! ===== whose a duty is, whom to ask: exactly, on both sides ===== -/
section T79zzr
variable {S : aS} {I J K : Nat → Nat → Int32} {L : Nat → Nat → Int64} {w1 w2 t e i j k n p : Nat} {T W : Nat → Int32} {x y : Int32} {P : Nat → Bool}
set_option maxRecDepth 100000
/-- a pair of kerbs -/
def prB (x y : Int32) : Bool := inB x 0 15 && (inB y 0 15 && decide (x ≤ y))
def okT (T : Nat → Int32) : Nat → Bool
  | 0 => true
  | i + 1 => okT T i && prB (T (2 * i)) (T (2 * i + 1))
def toldF (T : Nat → Int32) (e : Nat) : Bool := decide (e % 2 = 0 ∧ e ≤ 40) && okT T (e / 2)
def inF (T : Nat → Int32) (x : Int32) : Nat → Bool
  | 0 => true
  | i + 1 => inF T x i && inB x (T (2 * i)) (T (2 * i + 1))
def fitW (T W : Nat → Int32) (e : Nat) : Int32 := bs (pn W) (fun p => inF T (vp W 0 p) (e / 2))
def vWs (T : Nat → Int32) (e : Nat) : Int32 := if toldF T e = true then 0 else 1
theorem okT_s : okT T (i + 1) = (okT T i && prB (T (2 * i)) (T (2 * i + 1))) := rfl
theorem inF_s : inF T x (i + 1) = (inF T x i && inB x (T (2 * i)) (T (2 * i + 1))) := rfl
theorem okT_no (h : okT T i = false) : ∀ m, okT T (i + m) = false := by
  intro m
  induction m with
  | zero => exact h
  | succ m ih =>
    show (okT T (i + m) && _) = false
    rw [ih, Bool.false_and]
theorem rmT : ∀ e, e < 401 → nI e - nI e / 2 * 2 = nI (e % 2) := by decide +kernel
theorem n22 (i : Nat) : nI (2 * i) + 2 = nI (2 * (i + 1)) := by
  rw [show (2 : Int32) = nI 2 from rfl, nI_addl]
  rfl
theorem bs_tt (h : P n = true) : bs (n + 1) P = bs n P ||| bitF (nI n) := if_pos h
theorem bs_ff (h : P n = false) : bs (n + 1) P = bs n P := if_neg (by rw [h]; exact Bool.false_ne_true)
theorem all_bits : ∀ n, n < 7 → bitF (nI n) - 1 = bs n (fun _ => true) := by decide +kernel
theorem bt_n : ∀ n, n < 256 → (nI n - 128) &&& 255 = nI ((n + 128) % 256) ∧ (n < 128 → nI n - 128 < 0) ∧ (128 ≤ n → nI n - 128 = nI (n - 128)) := by decide +kernel
/-- a byte, with its sign and without -/
theorem bt_u (h : BtT T) (hk : k < 400) : ∃ b, b < 256 ∧ T k &&& 255 = nI b ∧ (b < 128 → T k = nI b) ∧ (128 ≤ b → T k < 0) := by
  obtain ⟨m, m1, m2⟩ := h k hk
  obtain ⟨g1, g2, g3⟩ := bt_n m m1
  rw [m2]
  refine ⟨(m + 128) % 256, by omega, g1, fun z => ?_, fun z => g2 (by omega)⟩
  rw [g3 (by omega)]
  congr 1
  omega
theorem pr_u {b1 b2 : Nat} (h1 : b1 < 256) (h2 : b2 < 256) (p1 : b1 < 128 → x = nI b1) (q1 : 128 ≤ b1 → x < 0) (p2 : b2 < 128 → y = nI b2) (q2 : 128 ≤ b2 → y < 0) : prB x y = true ↔ (b1 ≤ b2 ∧ b2 ≤ 15) := by
  unfold prB inB
  rw [Bool.and_eq_true, Bool.and_eq_true, decide_eq_true_iff, decide_eq_true_iff, decide_eq_true_iff]
  constructor
  · rintro ⟨⟨z1, _⟩, ⟨z3, z4⟩, z5⟩
    have c1 : b1 < 128 := by
      by_cases c : b1 < 128
      · exact c
      · exact absurd (q1 (by omega)) (Int32.not_lt.mpr z1)
    have c2 : b2 < 128 := by
      by_cases c : b2 < 128
      · exact c
      · exact absurd (q2 (by omega)) (Int32.not_lt.mpr z3)
    rw [p1 c1, p2 c2] at z5
    rw [p2 c2] at z4
    exact ⟨nI_ge_of z5 (by omega) (by omega), nI_ge_of (a := 15) z4 (by decide) (by omega)⟩
  · rintro ⟨z1, z2⟩
    rw [p1 (by omega), p2 (by omega)]
    exact ⟨⟨nI_leu (n := 0) (by omega) (by omega), nI_leu (j := 15) (by omega) (by decide)⟩, ⟨nI_leu (n := 0) (by omega) (by omega), nI_leu (j := 15) z2 (by decide)⟩, nI_leu z1 (by omega)⟩
theorem f_whoFits (h : Sy I) (he : I 201 1 = nI e) (h4 : e ≤ 400) : SpE S m_X11_whoFits 16 [.ref 200] (hp I L w1 w2 t) (some (.int (if toldF (I 202) e = true then fitW (I 202) (I 421) e else -1))) (hp I L w1 w2 t) := by
  have h6 := h.n6
  have bt : BtT (I 202) := h.1.2.2.1
  have kb : ∀ p, p < pn (I 421) → I (235 + 1) p = vp (I 421) 0 p := fun p hp => (h.nm.1.2.1 p (by omega)).1
  refine SpE_of ok_X11_whoFits rfl rfl ?_
  show AW S m_X11_whoFits 16 _ _ 0 0 0 [some (.ref 200), none, none, none, none] [] (hp I L w1 w2 t)
  have no : ¬ toldF (I 202) e = true → AW S m_X11_whoFits 16 (fun v h' => v = some (.int (if toldF (I 202) e = true then fitW (I 202) (I 421) e else -1)) ∧ h' = hp I L w1 w2 t) (fun _ _ => False) 0 0 24 [some (.ref 200), none, none, none, none] [] (hp I L w1 w2 t) := fun z => by
    refine a_s rfl rfl ?_
    exact a_iret rfl rfl ⟨by rw [if_neg z], rfl⟩
  have nt : ¬ (e % 2 = 0 ∧ e ≤ 40) → ¬ toldF (I 202) e = true := fun z q => by
    unfold toldF at q
    rw [decide_eq_false z, Bool.false_and] at q
    exact Bool.false_ne_true q
  refine a_l0 rfl rfl rfl ?_
  refine a_getq rfl gfX11_10_11 rfl (rfl) ?_
  refine a_getiv (v := nI e) rfl gfX11_68_7 rfl (he) ?_
  refine a_s rfl rfl ?_
  refine a_ic_gt rfl (fun c => no (nt fun z => absurd c (nI_nlu (n := 40) (j := e) z.2 (by decide)))) (fun c40 => ?_)
  have h40 : e ≤ 40 := nI_le_of (a := e) (b := 40) c40 (by omega) (by decide)
  refine a_l0 rfl rfl rfl ?_
  refine a_getq rfl gfX11_10_11 rfl (rfl) ?_
  refine a_getiv (v := nI e) rfl gfX11_68_7 rfl (he) ?_
  refine a_s rfl rfl ?_
  refine a_irem rfl (by decide) ?_
  refine a_top (y := nI (e % 2)) (rmT e (by omega)) ?_
  refine a_if_eq rfl (fun ce => ?_) (fun c => no (nt fun z => c (by rw [z.1]; rfl)))
  have ev : e % 2 = 0 := nI_inj (b := 0) (by omega) (by decide) ce
  have eT : toldF (I 202) e = okT (I 202) (e / 2) := by
    unfold toldF
    rw [decide_eq_true (show e % 2 = 0 ∧ e ≤ 40 from ⟨ev, h40⟩), Bool.true_and]
  refine a_l0 rfl rfl rfl ?_
  refine a_getq rfl gfX11_37_11 rfl (rfl) ?_
  refine a_getiv (v := nI (pn (I 421))) rfl gfX11_179_5 rfl (h.d0) ?_
  refine a_eS1 rfl lX11_319 mo_X11_bit sp_X11_bit rfl rfl rfl rfl ?_
  refine a_s rfl rfl ?_
  refine a_s rfl rfl ?_
  refine a_top (y := bs (pn (I 421)) (fun p => inF (I 202) (vp (I 421) 0 p) 0)) (all_bits _ (by omega)) ?_
  refine a_s1 rfl rfl rfl rfl rfl rfl ?_
  refine a_s rfl rfl ?_
  refine a_s2 rfl rfl rfl rfl rfl rfl ?_
  refine a_inv (n := e / 2) (fun m ls hh => ∃ i u3 u4, ls = [some (.ref 200), some (.int (bs (pn (I 421)) (fun p => inF (I 202) (vp (I 421) 0 p) i))), some (.int (nI (2 * i))), u3, u4] ∧ hh = hp I L w1 w2 t ∧ i ≤ e / 2 ∧ m = e / 2 - i ∧ okT (I 202) i = true) ⟨0, none, none, rfl, rfl, Nat.zero_le _, rfl, rfl⟩ ?_
  rintro m _ _ ⟨i, u3, u4, rfl, rfl, hi, hm, ok⟩ ih
  refine a_l2 rfl rfl rfl ?_
  refine a_l0 rfl rfl rfl ?_
  refine a_getq rfl gfX11_10_11 rfl (rfl) ?_
  refine a_getiv (v := nI e) rfl gfX11_68_7 rfl (he) ?_
  refine a_ic_ge rfl (fun c => ?_) (fun c => ?_)
  · have hge := nI_ge_of c (by omega) (by omega)
    obtain rfl : i = e / 2 := by omega
    refine a_l1 rfl rfl rfl ?_
    exact a_iret rfl rfl ⟨by rw [if_pos (eT.trans ok)]; rfl, rfl⟩
  have hd := nI_lt_of c (by omega) (by omega)
  obtain ⟨b1, g1, g2, g3, g4⟩ := bt_u (k := 2 * i) bt (by omega)
  obtain ⟨b2, j1, j2, j3, j4⟩ := bt_u (k := 2 * i + 1) bt (by omega)
  have pr := pr_u g1 j1 g3 g4 j3 j4
  refine a_l0 rfl rfl rfl ?_
  refine a_getq rfl gfX11_10_11 rfl (rfl) ?_
  refine a_l2 rfl rfl rfl ?_
  refine a_eV1 rfl lX11_392 mo_X7_byteAt (f_byteAt he h4 (j := 2 * i) (by omega)) rfl rfl rfl ⟨7, _, rfl, rfl, rfl⟩ rfl ?_
  refine a_top (y := nI b1) ((if_pos hd).trans g2) ?_
  refine a_s3 rfl rfl rfl rfl rfl rfl ?_
  refine a_l0 rfl rfl rfl ?_
  refine a_getq rfl gfX11_10_11 rfl (rfl) ?_
  refine a_l2 rfl rfl rfl ?_
  refine a_s rfl rfl ?_
  refine a_s rfl rfl ?_
  refine a_top (y := nI (2 * i + 1)) ((nI_succ _).symm) ?_
  refine a_eV1 rfl lX11_392 mo_X7_byteAt (f_byteAt he h4 (j := 2 * i + 1) (by omega)) rfl rfl rfl ⟨7, _, rfl, rfl, rfl⟩ rfl ?_
  refine a_top (y := nI b2) ((if_pos (show 2 * i + 1 < e by omega)).trans j2) ?_
  refine a_s4 rfl rfl rfl rfl rfl rfl ?_
  refine a_l3 rfl rfl rfl ?_
  refine a_l4 rfl rfl rfl ?_
  have bad : ∀ {u3 u4 : Option Value}, ¬ (b1 ≤ b2 ∧ b2 ≤ 15) → AW S m_X11_whoFits 16 (fun v h' => v = some (.int (if toldF (I 202) e = true then fitW (I 202) (I 421) e else -1)) ∧ h' = hp I L w1 w2 t) (fun _ _ => False) 0 0 86 [some (.ref 200), some (.int (bs (pn (I 421)) (fun p => inF (I 202) (vp (I 421) 0 p) i))), some (.int (nI (2 * i))), u3, u4] [] (hp I L w1 w2 t) := fun z => by
    have o1 : okT (I 202) (i + 1) = false := by rw [okT_s, Bool.eq_false_iff.mpr (fun q => z (pr.mp q)), Bool.and_false]
    have o2 := okT_no o1 (e / 2 - (i + 1))
    rw [show i + 1 + (e / 2 - (i + 1)) = e / 2 by omega] at o2
    refine a_s rfl rfl ?_
    exact a_iret rfl rfl ⟨by rw [if_neg (by rw [eT, o2]; exact Bool.false_ne_true)], rfl⟩
  refine a_ic_gt rfl (fun c1 => bad (fun z => absurd c1 (nI_nlu z.1 (by omega)))) (fun c1 => ?_)
  refine a_l4 rfl rfl rfl ?_
  refine a_s rfl rfl ?_
  refine a_ic_le rfl (fun c2 => ?_) (fun c2 => bad (fun z => c2 (nI_leu (j := 15) z.2 (by decide))))
  have le12 : b1 ≤ b2 := nI_le_of c1 (by omega) (by omega)
  have le15 : b2 ≤ 15 := nI_ge_of (a := 15) c2 (by decide) (by omega)
  refine a_l1 rfl rfl rfl ?_
  refine a_l0 rfl rfl rfl ?_
  refine a_getq rfl gfX11_37_11 rfl (rfl) ?_
  refine a_l3 rfl rfl rfl ?_
  refine a_l4 rfl rfl rfl ?_
  refine a_eV1 rfl lX11_395 mo_X5_standingBetween (sp_X5_standingBetween (np := pn (I 421)) (a := 235) (by decide) h.d0 h.n6) rfl rfl rfl ⟨5, _, rfl, rfl, rfl⟩ rfl ?_
  refine a_s rfl rfl ?_
  have step : bs (pn (I 421)) (fun p => inF (I 202) (vp (I 421) 0 p) i) &&& standF (pn (I 421)) (I (235 + 1)) (nI b1) (nI b2) = bs (pn (I 421)) (fun p => inF (I 202) (vp (I 421) 0 p) (i + 1)) := by
    unfold standF
    rw [bs_and (by omega)]
    refine bs_congr fun p hp => ?_
    show (inF (I 202) (vp (I 421) 0 p) i && decide (nI b1 ≤ I (235 + 1) p ∧ I (235 + 1) p ≤ nI b2)) = (inF (I 202) (vp (I 421) 0 p) i && decide (I 202 (2 * i) ≤ vp (I 421) 0 p ∧ vp (I 421) 0 p ≤ I 202 (2 * i + 1)))
    rw [kb p hp, g3 (by omega), j3 (by omega)]
  refine a_top (y := bs (pn (I 421)) (fun p => inF (I 202) (vp (I 421) 0 p) (i + 1))) (step) ?_
  refine a_s1 rfl rfl rfl rfl rfl rfl ?_
  refine a_iv2 (y := nI (2 * (i + 1))) rfl rfl rfl (n22 i) ?_
  refine a_goto rfl ?_
  exact ih (e / 2 - (i + 1)) _ _ (by omega) ⟨i + 1, _, _, rfl, rfl, by omega, rfl, by rw [okT_s, ok, pr.mpr ⟨le12, le15⟩]; rfl⟩
theorem f_takeWho (h : Sy I) (he : I 201 1 = nI e) (h4 : e ≤ 400) : SpE S m_X11_takeWhoFits 17 [.ref 200] (hp I L w1 w2 t) (some (.int (if toldF (I 202) e = true then fitW (I 202) (I 421) e else -1))) (hp (up2 I 201 1 0) L w1 w2 t) := by
  refine SpE_of ok_X11_takeWhoFits rfl rfl ?_
  show AW S m_X11_takeWhoFits 17 _ _ 0 0 0 [some (.ref 200), none] [] (hp I L w1 w2 t)
  refine a_l0 rfl rfl rfl ?_
  refine a_eV1 rfl lX11_389 mo_X11_whoFits (f_whoFits h he h4) rfl rfl rfl ⟨11, _, rfl, rfl, rfl⟩ rfl ?_
  refine a_s1 rfl rfl rfl rfl rfl rfl ?_
  refine a_l0 rfl rfl rfl ?_
  refine a_getq rfl gfX11_10_11 rfl (rfl) ?_
  refine a_s rfl rfl ?_
  refine a_puti rfl pfX11_68_7 rfl ?_
  refine a_l1 rfl rfl rfl ?_
  exact a_iret rfl rfl ⟨rfl, rfl⟩
theorem fit_no : ¬ fitW T W e = -1 ∨ 12 < pn W := by
  by_cases c : pn W ≤ 12
  · obtain ⟨m, m1, m2⟩ := bs_nI12 (P := fun p => inF T (vp W 0 p) (e / 2)) c
    refine Or.inl fun z => ?_
    unfold fitW at z
    rw [m2] at z
    exact nI_no (by omega) z
  · exact Or.inr (by omega)
theorem fq_whose (h : Sy I) (he : I 201 1 = nI e) (h4 : e ≤ 400) : Sp S m_X11_whose 18 1 6 [.ref 200] (hp I L w1 w2 t) (fun v h' => vWs (I 202) e = 0 ∧ v = some (.int (fitW (I 202) (I 421) e)) ∧ h' = hp (up2 I 201 1 0) L w1 w2 t) (fun E h' => E = exN 1 ∧ vWs (I 202) e = 1 ∧ h' = hp (up2 I 201 1 0) L w1 w2 0) := by
  have h6 := h.n6
  refine Sp_of ok_X11_whose rfl rfl ?_
  show AW S m_X11_whose 18 _ _ 1 6 0 [some (.ref 200), none] [] (hp I L w1 w2 t)
  refine a_l0 rfl rfl rfl ?_
  refine a_eV1 rfl lX11_310 mo_X11_takeWhoFits (f_takeWho h he h4) rfl rfl rfl ⟨11, _, rfl, rfl, rfl⟩ rfl ?_
  by_cases hz : toldF (I 202) e = true
  · rw [if_pos hz]
    refine a_s1 rfl rfl rfl rfl rfl rfl ?_
    refine a_l1 rfl rfl rfl ?_
    refine a_s rfl rfl ?_
    refine a_ic_ne rfl (fun _ => ?_) (fun c => absurd c (fit_no.resolve_right (by omega)))
    refine a_l1 rfl rfl rfl ?_
    exact a_iret rfl rfl ⟨if_pos hz, rfl, rfl⟩
  · rw [if_neg hz]
    refine a_s1 rfl rfl rfl rfl rfl rfl ?_
    refine a_l1 rfl rfl rfl ?_
    refine a_s rfl rfl ?_
    refine a_ic_ne rfl (fun c => absurd rfl c) (fun _ => ?_)
    exact a_throw rfl rfl rfl rfl tX11_iae rfl rfl rfl rfl rfl ⟨rfl, if_neg hz, rfl⟩
/-! whom to ask -/
def cK (P : Nat → Bool) (W : Nat → Int32) (n k : Nat) : Nat := cntF n (fun p => P p && decide (vp W 0 p ≤ nI k))
def gK (P : Nat → Bool) (W : Nat → Int32) (n k : Nat) : Nat := max (cK P W n k) (cntF n P - cK P W n k)
def akF (P : Nat → Bool) (W : Nat → Int32) (n : Nat) : Nat → Int32 × Nat
  | 0 => (-1, cntF n P + 1)
  | k + 1 => if gK P W n k < (akF P W n k).2 then (nI k, gK P W n k) else akF P W n k
def askF (P : Nat → Bool) (W : Nat → Int32) (n : Nat) : Int32 := if cntF n P < 2 then -1 else (akF P W n 15).1
def askW (T W : Nat → Int32) (e : Nat) : Int32 := askF (fun p => inF T (vp W 0 p) (e / 2)) W (pn W)
theorem cK_le : cK P W n k ≤ cntF n P := cnt_le fun x _ h => by
  rw [Bool.and_eq_true] at h
  exact h.1
theorem gK_le : gK P W n k ≤ cntF n P := Nat.max_le.mpr ⟨cK_le, Nat.sub_le _ _⟩
theorem akF_le : ∀ k, (akF P W n k).2 ≤ cntF n P + 1 := by
  intro k
  induction k with
  | zero => exact Nat.le_refl _
  | succ k ih =>
    show (if gK P W n k < (akF P W n k).2 then (nI k, gK P W n k) else akF P W n k).2 ≤ _
    by_cases c : gK P W n k < (akF P W n k).2
    · rw [if_pos c]
      exact Nat.le_succ_of_le gK_le
    · rw [if_neg c]
      exact ih
theorem akF_s : akF P W n (k + 1) = if gK P W n k < (akF P W n k).2 then (nI k, gK P W n k) else akF P W n k := rfl
theorem mx_nI {a b : Nat} (ha : a < 2 ^ 31) (hb : b < 2 ^ 31) : (if nI a < nI b then nI b else nI a) = nI (max a b) := by
  by_cases c : a < b
  · rw [if_pos ((nI_lt_iff ha hb).mpr c), Nat.max_eq_right (by omega)]
  · rw [if_neg (fun z => c ((nI_lt_iff ha hb).mp z)), Nat.max_eq_left (by omega)]
theorem f_kerbAsk (hn : n ≤ 6) (h0 : I 235 0 = nI n) (kb : ∀ p, p < n → I (235 + 1) p = vp W 0 p) (k0 : ∀ p, p < n → (0 : Int32) ≤ vp W 0 p) : SpE S m_X11_kerbToAskFor 16 [.ref 200, .int (bs n P)] (hp I L w1 w2 t) (some (.int (askF P W n))) (hp I L w1 w2 t) := by
  have cl := cntF_le n P
  refine SpE_of ok_X11_kerbToAskFor rfl rfl ?_
  show AW S m_X11_kerbToAskFor 16 _ _ 0 0 0 [some (.ref 200), some (.int (bs n P)), none, none, none, none, none, none] [] (hp I L w1 w2 t)
  refine a_l1 rfl rfl rfl ?_
  refine a_eS1 rfl lX11_261 mo_J6_bitCount_0f7a4 (sp_bitCount) rfl rfl rfl rfl ?_
  rw [bc_bs (by omega)]
  refine a_s2 rfl rfl rfl rfl rfl rfl ?_
  refine a_l2 rfl rfl rfl ?_
  refine a_s rfl rfl ?_
  refine a_ic_ge rfl (fun c => ?_) (fun c => ?_)
  rotate_left
  · have c2 := nI_lt_of (b := 2) c (by omega) (by decide)
    refine a_s rfl rfl ?_
    exact a_iret rfl rfl ⟨by unfold askF; rw [if_pos c2], rfl⟩
  have c2 := nI_ge_of (b := 2) c (by omega) (by decide)
  refine a_s rfl rfl ?_
  refine a_s3 rfl rfl rfl rfl rfl rfl ?_
  refine a_l2 rfl rfl rfl ?_
  refine a_s rfl rfl ?_
  refine a_s rfl rfl ?_
  refine a_top (y := nI (cntF n P + 1)) ((nI_succ _).symm) ?_
  refine a_s4 rfl rfl rfl rfl rfl rfl ?_
  refine a_s rfl rfl ?_
  refine a_s5 rfl rfl rfl rfl rfl rfl ?_
  refine a_inv (n := 15) (fun m ls hh => ∃ k u6 u7, ls = [some (.ref 200), some (.int (bs n P)), some (.int (nI (cntF n P))), some (.int (akF P W n k).1), some (.int (nI (akF P W n k).2)), some (.int (nI k)), u6, u7] ∧ hh = hp I L w1 w2 t ∧ k ≤ 15 ∧ m = 15 - k) ⟨0, none, none, rfl, rfl, by decide, rfl⟩ ?_
  rintro m _ _ ⟨k, u6, u7, rfl, rfl, hk, hm⟩ ih
  refine a_l5 rfl rfl rfl ?_
  refine a_s rfl rfl ?_
  by_cases hk15 : k < 15
  case neg =>
    obtain rfl : k = 15 := by omega
    refine a_ic_ge rfl (fun _ => ?_) (fun c => absurd (show (15 : Int32) ≤ nI 15 by decide) c)
    refine a_l3 rfl rfl rfl ?_
    exact a_iret rfl rfl ⟨by unfold askF; rw [if_neg (by omega)], rfl⟩
  refine a_ic_ge rfl (fun c => absurd (nI_ge_of (b := 15) c (by omega) (by decide)) (by omega)) (fun _ => ?_)
  refine a_l1 rfl rfl rfl ?_
  refine a_l0 rfl rfl rfl ?_
  refine a_getq rfl gfX11_37_11 rfl (rfl) ?_
  refine a_s rfl rfl ?_
  refine a_l5 rfl rfl rfl ?_
  refine a_eV1 rfl lX11_395 mo_X5_standingBetween (sp_X5_standingBetween (np := n) (a := 235) (by decide) h0 hn) rfl rfl rfl ⟨5, _, rfl, rfl, rfl⟩ rfl ?_
  refine a_s rfl rfl ?_
  have step : bs n P &&& standF n (I (235 + 1)) 0 (nI k) = bs n (fun p => P p && decide (vp W 0 p ≤ nI k)) := by
    unfold standF
    rw [bs_and (by omega)]
    refine bs_congr fun p hp => ?_
    rw [kb p hp, show decide ((0 : Int32) ≤ vp W 0 p ∧ vp W 0 p ≤ nI k) = decide (vp W 0 p ≤ nI k) from decide_eq_decide.mpr ⟨fun z => z.2, fun z => ⟨k0 p hp, z⟩⟩]
  rw [step]
  refine a_eS1 rfl lX11_261 mo_J6_bitCount_0f7a4 (sp_bitCount) rfl rfl rfl rfl ?_
  have ck := cK_le (P := P) (W := W) (n := n) (k := k)
  have gk := gK_le (P := P) (W := W) (n := n) (k := k)
  have ak := akF_le (P := P) (W := W) (n := n) k
  refine a_top (y := nI (cK P W n k)) (bc_bs (by omega)) ?_
  refine a_s6 rfl rfl rfl rfl rfl rfl ?_
  refine a_l6 rfl rfl rfl ?_
  refine a_l2 rfl rfl rfl ?_
  refine a_l6 rfl rfl rfl ?_
  refine a_s rfl rfl ?_
  refine a_top (y := nI (cntF n P - cK P W n k)) (nI_sub ck) ?_
  refine a_max rfl lX11_290 mj_max rfl rfl ?_
  refine a_top (y := nI (gK P W n k)) (mx_nI (by omega) (by omega)) ?_
  refine a_s7 rfl rfl rfl rfl rfl rfl ?_
  refine a_l7 rfl rfl rfl ?_
  refine a_l4 rfl rfl rfl ?_
  refine a_ic_ge rfl (fun c => ?_) (fun c => ?_)
  · have e : akF P W n (k + 1) = akF P W n k := by rw [akF_s, if_neg (by have := nI_ge_of c (by omega) (by omega); omega)]
    refine a_iv5 (y := nI (k + 1)) rfl rfl rfl ((nI_succ k).symm) ?_
    refine a_goto rfl ?_
    exact ih (15 - (k + 1)) _ _ (by omega) ⟨k + 1, _, _, by rw [e], rfl, hk15, rfl⟩
  · have e : akF P W n (k + 1) = (nI k, gK P W n k) := by rw [akF_s, if_pos (nI_lt_of c (by omega) (by omega))]
    refine a_l5 rfl rfl rfl ?_
    refine a_s3 rfl rfl rfl rfl rfl rfl ?_
    refine a_l7 rfl rfl rfl ?_
    refine a_s4 rfl rfl rfl rfl rfl rfl ?_
    refine a_iv5 (y := nI (k + 1)) rfl rfl rfl ((nI_succ k).symm) ?_
    refine a_goto rfl ?_
    exact ih (15 - (k + 1)) _ _ (by omega) ⟨k + 1, _, _, by rw [e], rfl, hk15, rfl⟩
theorem fq_ask (h : Sy I) (he : I 201 1 = nI e) (h4 : e ≤ 400) : Sp S m_X11_ask 18 1 6 [.ref 200] (hp I L w1 w2 t) (fun v h' => vWs (I 202) e = 0 ∧ v = some (.int (askW (I 202) (I 421) e)) ∧ h' = hp (up2 I 201 1 0) L w1 w2 t) (fun E h' => E = exN 1 ∧ vWs (I 202) e = 1 ∧ h' = hp (up2 I 201 1 0) L w1 w2 0) := by
  have h6 := h.n6
  have kp : ∀ p, p < pn (I 421) → (0 : Int32) ≤ vp (I 421) 0 p := fun p hp => by
    obtain ⟨b, b1, b2⟩ := (h.nm.2.2.2.2.1 p hp).1
    have b2 : vp (I 421) 0 p = nI b := b2
    rw [b2]
    exact nI_leu (n := 0) (by omega) (by omega)
  refine Sp_of ok_X11_ask rfl rfl ?_
  show AW S m_X11_ask 18 _ _ 1 6 0 [some (.ref 200), none] [] (hp I L w1 w2 t)
  refine a_l0 rfl rfl rfl ?_
  refine a_eV1 rfl lX11_310 mo_X11_takeWhoFits (f_takeWho h he h4) rfl rfl rfl ⟨11, _, rfl, rfl, rfl⟩ rfl ?_
  by_cases hz : toldF (I 202) e = true
  · rw [if_pos hz]
    refine a_s1 rfl rfl rfl rfl rfl rfl ?_
    refine a_l1 rfl rfl rfl ?_
    refine a_s rfl rfl ?_
    refine a_ic_ne rfl (fun _ => ?_) (fun c => absurd c (fit_no.resolve_right (by omega)))
    refine a_l0 rfl rfl rfl ?_
    refine a_l1 rfl rfl rfl ?_
    refine a_eV1 rfl lX11_313 mo_X11_kerbToAskFor (f_kerbAsk (W := I 421) (n := pn (I 421)) (P := fun p => inF (I 202) (vp (I 421) 0 p) (e / 2)) h6 ((congrFun (up2_row (by decide)) 0).trans h.d0) (fun p hp => (congrFun (up2_row (by decide)) p).trans (h.nm.1.2.1 p (by omega)).1) kp) rfl rfl rfl ⟨11, _, rfl, rfl, rfl⟩ rfl ?_
    exact a_iret rfl rfl ⟨if_pos hz, rfl, rfl⟩
  · rw [if_neg hz]
    refine a_s1 rfl rfl rfl rfl rfl rfl ?_
    refine a_l1 rfl rfl rfl ?_
    refine a_s rfl rfl ?_
    refine a_ic_ne rfl (fun c => absurd rfl c) (fun _ => ?_)
    exact a_throw rfl rfl rfl rfl tX11_iae rfl rfl rfl rfl rfl ⟨rfl, if_neg hz, rfl⟩
theorem h_isTold (e26 : K 426 = T) (he : K 420 11 = nI e) (h4 : e ≤ 400) : SpE S m_X12_isTold 14 [.ref 420] (hp K L w1 w2 t) (some (.int (bI (toldF T e)))) (hp K L w1 w2 t) := by
  refine SpE_of ok_X12_isTold rfl rfl ?_
  show AW S m_X12_isTold 14 _ _ 0 0 0 [some (.ref 420), none, none] [] (hp K L w1 w2 t)
  have no : ¬ (e % 2 = 0 ∧ e ≤ 40) → AW S m_X12_isTold 14 (fun v h' => v = some (.int (bI (toldF T e))) ∧ h' = hp K L w1 w2 t) (fun _ _ => False) 0 0 22 [some (.ref 420), none, none] [] (hp K L w1 w2 t) := fun z => by
    have z2 : toldF T e = false := by
      unfold toldF
      rw [decide_eq_false z, Bool.false_and]
    refine a_s rfl rfl ?_
    refine a_s1 rfl rfl rfl rfl rfl rfl ?_
    refine a_s rfl rfl ?_
    refine a_s2 rfl rfl rfl rfl rfl rfl ?_
    refine a_l2 rfl rfl rfl ?_
    refine a_l0 rfl rfl rfl ?_
    refine a_getiv (v := nI e) rfl gfX12_84_12 rfl (he) ?_
    refine a_ic_ge rfl (fun _ => ?_) (fun _ => ?_)
    · refine a_l1 rfl rfl rfl ?_
      exact a_zret rfl rfl rfl ⟨by rw [z2]; rfl, rfl⟩
    · refine a_l1 rfl rfl rfl ?_
      refine a_if_eq rfl (fun _ => ?_) (fun c => absurd rfl c)
      refine a_l1 rfl rfl rfl ?_
      exact a_zret rfl rfl rfl ⟨by rw [z2]; rfl, rfl⟩
  refine a_l0 rfl rfl rfl ?_
  refine a_getiv (v := nI e) rfl gfX12_84_12 rfl (he) ?_
  refine a_s rfl rfl ?_
  refine a_irem rfl (by decide) ?_
  refine a_top (y := nI (e % 2)) (rmT e (by omega)) ?_
  refine a_if_ne rfl (fun c => no (fun z => c (by rw [z.1]; rfl))) (fun ce => ?_)
  have ev : e % 2 = 0 := nI_inj (b := 0) (by omega) (by decide) ce
  refine a_l0 rfl rfl rfl ?_
  refine a_getiv (v := nI e) rfl gfX12_84_12 rfl (he) ?_
  refine a_s rfl rfl ?_
  refine a_ic_gt rfl (fun c => no (fun z => absurd c (nI_nlu (n := 40) (j := e) z.2 (by decide)))) (fun c40 => ?_)
  have h40 : e ≤ 40 := nI_le_of (a := e) (b := 40) c40 (by omega) (by decide)
  have eT : toldF T e = okT T (e / 2) := by
    unfold toldF
    rw [decide_eq_true (show e % 2 = 0 ∧ e ≤ 40 from ⟨ev, h40⟩), Bool.true_and]
  refine a_s rfl rfl ?_
  refine a_goto rfl ?_
  refine a_s1 rfl rfl rfl rfl rfl rfl ?_
  refine a_s rfl rfl ?_
  refine a_s2 rfl rfl rfl rfl rfl rfl ?_
  refine a_inv (n := e / 2) (fun m ls hh => ∃ i, ls = [some (.ref 420), some (.int (bI (okT T i))), some (.int (nI (2 * i)))] ∧ hh = hp K L w1 w2 t ∧ i ≤ e / 2 ∧ m = e / 2 - i) ⟨0, rfl, rfl, Nat.zero_le _, rfl⟩ ?_
  rintro m _ _ ⟨i, rfl, rfl, hi, hm⟩ ih
  refine a_l2 rfl rfl rfl ?_
  refine a_l0 rfl rfl rfl ?_
  refine a_getiv (v := nI e) rfl gfX12_84_12 rfl (he) ?_
  refine a_ic_ge rfl (fun c => ?_) (fun c => ?_)
  · have hge := nI_ge_of c (by omega) (by omega)
    obtain rfl : i = e / 2 := by omega
    refine a_l1 rfl rfl rfl ?_
    exact a_zret rfl rfl (bI_nar _) ⟨by rw [eT], rfl⟩
  have hd := nI_lt_of c (by omega) (by omega)
  have back : ∀ b', b' = okT T (i + 1) → AW S m_X12_isTold 14 (fun v h' => v = some (.int (bI (toldF T e))) ∧ h' = hp K L w1 w2 t) (fun _ _ => False) 0 0 87 [some (.ref 420), some (.int (bI b')), some (.int (nI (2 * i)))] [] (hp K L w1 w2 t) := by
    intro b' hb
    refine a_iv2 (y := nI (2 * (i + 1))) rfl rfl rfl (n22 i) ?_
    refine a_goto rfl ?_
    exact ih (e / 2 - (i + 1)) _ _ (by omega) ⟨i + 1, by rw [hb], rfl, by omega, rfl⟩
  cases ho : okT T i with
  | false =>
    refine a_l1 rfl rfl rfl ?_
    refine a_if_eq rfl (fun _ => ?_) (fun c => absurd rfl c)
    have o2 := okT_no ho (e / 2 - i)
    rw [show i + (e / 2 - i) = e / 2 by omega] at o2
    refine a_l1 rfl rfl rfl ?_
    exact a_zret rfl rfl rfl ⟨by rw [eT, o2], rfl⟩
  | true =>
  have nx : prB (T (2 * i)) (T (2 * i + 1)) = false → AW S m_X12_isTold 14 (fun v h' => v = some (.int (bI (toldF T e))) ∧ h' = hp K L w1 w2 t) (fun _ _ => False) 0 0 85 [some (.ref 420), some (.int (bI true)), some (.int (nI (2 * i)))] [] (hp K L w1 w2 t) := fun z => by
    refine a_s rfl rfl ?_
    refine a_s1 rfl rfl rfl rfl rfl rfl ?_
    exact back false (by rw [okT_s, z, Bool.and_false])
  refine a_l1 rfl rfl rfl ?_
  refine a_if_eq rfl (fun c => absurd c (by decide)) (fun _ => ?_)
  refine a_l0 rfl rfl rfl ?_
  refine a_getq rfl gfX12_29_12 rfl (rfl) ?_
  refine a_l2 rfl rfl rfl ?_
  refine a_baldv (v := T (2 * i)) rfl (n := 400) rfl (inI_nI (by omega) (by omega)) (by rw [nI_clamp (by omega), e26]) ?_
  refine a_eS1 rfl lX12_292 mo_X12_noKerb sp_X12_noKerb rfl rfl rfl rfl ?_
  cases h1 : inB (T (2 * i)) 0 15 with
  | false => exact a_if_ne rfl (fun _ => nx (by unfold prB; rw [h1]; rfl)) (fun c => absurd c (by decide))
  | true =>
  refine a_if_ne rfl (fun c => absurd rfl c) (fun _ => ?_)
  refine a_l0 rfl rfl rfl ?_
  refine a_getq rfl gfX12_29_12 rfl (rfl) ?_
  refine a_l2 rfl rfl rfl ?_
  refine a_s rfl rfl ?_
  refine a_s rfl rfl ?_
  refine a_top (y := nI (2 * i + 1)) ((nI_succ _).symm) ?_
  refine a_baldv (v := T (2 * i + 1)) rfl (n := 400) rfl (inI_nI (by omega) (by omega)) (by rw [nI_clamp (by omega), e26]) ?_
  refine a_eS1 rfl lX12_292 mo_X12_noKerb sp_X12_noKerb rfl rfl rfl rfl ?_
  cases h2 : inB (T (2 * i + 1)) 0 15 with
  | false => exact a_if_ne rfl (fun _ => nx (by unfold prB; rw [h1, h2]; rfl)) (fun c => absurd c (by decide))
  | true =>
  refine a_if_ne rfl (fun c => absurd rfl c) (fun _ => ?_)
  refine a_l0 rfl rfl rfl ?_
  refine a_getq rfl gfX12_29_12 rfl (rfl) ?_
  refine a_l2 rfl rfl rfl ?_
  refine a_baldv (v := T (2 * i)) rfl (n := 400) rfl (inI_nI (by omega) (by omega)) (by rw [nI_clamp (by omega), e26]) ?_
  refine a_l0 rfl rfl rfl ?_
  refine a_getq rfl gfX12_29_12 rfl (rfl) ?_
  refine a_l2 rfl rfl rfl ?_
  refine a_s rfl rfl ?_
  refine a_s rfl rfl ?_
  refine a_top (y := nI (2 * i + 1)) ((nI_succ _).symm) ?_
  refine a_baldv (v := T (2 * i + 1)) rfl (n := 400) rfl (inI_nI (by omega) (by omega)) (by rw [nI_clamp (by omega), e26]) ?_
  refine a_ic_gt rfl (fun c => nx (by unfold prB; rw [h1, h2]; exact decide_eq_false (Int32.not_le.mpr c))) (fun c => ?_)
  refine a_s rfl rfl ?_
  refine a_goto rfl ?_
  refine a_s1 rfl rfl rfl rfl rfl rfl ?_
  refine back true ?_
  rw [okT_s, ho]
  unfold prB
  rw [h1, h2]
  exact (decide_eq_true (Int32.not_lt.mp c)).symm
theorem h_allThatFit (e26 : K 426 = T) (e21 : K 421 = W) (he : K 420 11 = nI e) (h4 : e ≤ 400) (ev : e % 2 = 0) (h0 : W 0 = nI (pn W)) (h6 : pn W ≤ 6) : SpE S m_X12_allThatFit 14 [.ref 420] (hp K L w1 w2 t) (some (.int (fitW T W e))) (hp K L w1 w2 t) := by
  refine SpE_of ok_X12_allThatFit rfl rfl ?_
  show AW S m_X12_allThatFit 14 _ _ 0 0 0 [some (.ref 420), none, none, none, none] [] (hp K L w1 w2 t)
  show AW S m_X12_allThatFit 14 (fun v h' => v = some (.int (bs (pn W) (fun p => inF T (vp W 0 p) (e / 2)))) ∧ h' = hp K L w1 w2 t) (fun _ _ => False) 0 0 0 [some (.ref 420), none, none, none, none] [] (hp K L w1 w2 t)
  generalize hP : (fun p => inF T (vp W 0 p) (e / 2)) = P
  refine a_s rfl rfl ?_
  refine a_s1 rfl rfl rfl rfl rfl rfl ?_
  refine a_s rfl rfl ?_
  refine a_s2 rfl rfl rfl rfl rfl rfl ?_
  refine a_inv (n := pn W) (fun m ls hh => ∃ j u3 u4, ls = [some (.ref 420), some (.int (bs j P)), some (.int (nI j)), u3, u4] ∧ hh = hp K L w1 w2 t ∧ j ≤ pn W ∧ m = pn W - j) ⟨0, none, none, rfl, rfl, Nat.zero_le _, rfl⟩ ?_
  rintro m _ _ ⟨j, u3, u4, rfl, rfl, hj, hm⟩ ihj
  refine a_l2 rfl rfl rfl ?_
  refine a_l0 rfl rfl rfl ?_
  refine a_eV1 rfl lX12_66 mo_X12_people sp_X12_people rfl rfl rfl ⟨12, _, rfl, rfl, rfl⟩ rfl ?_
  refine a_top (y := nI (pn W)) (by rw [e21]; exact h0) ?_
  refine a_ic_ge rfl (fun c => ?_) (fun c => ?_)
  · have hge := nI_ge_of c (by omega) (by omega)
    obtain rfl : j = pn W := by omega
    refine a_l1 rfl rfl rfl ?_
    exact a_iret rfl rfl ⟨rfl, rfl⟩
  have hjn := nI_lt_of c (by omega) (by omega)
  have pj : P j = inF T (vp W 0 j) (e / 2) := by rw [← hP]
  refine a_s rfl rfl ?_
  refine a_s3 rfl rfl rfl rfl rfl rfl ?_
  refine a_s rfl rfl ?_
  refine a_s4 rfl rfl rfl rfl rfl rfl ?_
  refine a_inv (n := e / 2) (fun m ls hh => ∃ i, ls = [some (.ref 420), some (.int (bs j P)), some (.int (nI j)), some (.int (bI (inF T (vp W 0 j) i))), some (.int (nI (2 * i)))] ∧ hh = hp K L w1 w2 t ∧ i ≤ e / 2 ∧ m = e / 2 - i) ⟨0, rfl, rfl, Nat.zero_le _, rfl⟩ ?_
  rintro m2 _ _ ⟨i, rfl, rfl, hi, hm2⟩ ih
  refine a_l4 rfl rfl rfl ?_
  refine a_l0 rfl rfl rfl ?_
  refine a_getiv (v := nI e) rfl gfX12_84_12 rfl (he) ?_
  refine a_ic_ge rfl (fun c => ?_) (fun c => ?_)
  · have hge := nI_ge_of c (by omega) (by omega)
    obtain rfl : i = e / 2 := by omega
    cases hf : inF T (vp W 0 j) (e / 2) with
    | false =>
      refine a_l1 rfl rfl rfl ?_
      refine a_l3 rfl rfl rfl ?_
      refine a_if_eq rfl (fun _ => ?_) (fun c => absurd rfl c)
      refine a_s rfl rfl ?_
      refine a_s rfl rfl ?_
      refine a_top (y := bs (j + 1) P) (by rw [bs_ff (pj.trans hf)]; simp) ?_
      refine a_s1 rfl rfl rfl rfl rfl rfl ?_
      refine a_iv2 (y := nI (j + 1)) rfl rfl rfl ((nI_succ j).symm) ?_
      refine a_goto rfl ?_
      exact ihj (pn W - (j + 1)) _ _ (by omega) ⟨j + 1, _, _, rfl, rfl, hjn, rfl⟩
    | true =>
      refine a_l1 rfl rfl rfl ?_
      refine a_l3 rfl rfl rfl ?_
      refine a_if_eq rfl (fun c => absurd c (by decide)) (fun _ => ?_)
      refine a_s rfl rfl ?_
      refine a_l2 rfl rfl rfl ?_
      refine a_s rfl rfl ?_
      rw [bit_lt (show j < 31 by omega)]
      refine a_goto rfl ?_
      refine a_s rfl rfl ?_
      refine a_top (y := bs (j + 1) P) ((bs_tt (pj.trans hf)).symm) ?_
      refine a_s1 rfl rfl rfl rfl rfl rfl ?_
      refine a_iv2 (y := nI (j + 1)) rfl rfl rfl ((nI_succ j).symm) ?_
      refine a_goto rfl ?_
      exact ihj (pn W - (j + 1)) _ _ (by omega) ⟨j + 1, _, _, rfl, rfl, hjn, rfl⟩
  have hd := nI_lt_of c (by omega) (by omega)
  have back : ∀ b', b' = inF T (vp W 0 j) (i + 1) → AW S m_X12_allThatFit 14 (fun v h' => v = some (.int (bs (pn W) P)) ∧ h' = hp K L w1 w2 t) (fun _ _ => False) 0 0 64 [some (.ref 420), some (.int (bs j P)), some (.int (nI j)), some (.int (bI b')), some (.int (nI (2 * i)))] [] (hp K L w1 w2 t) := by
    intro b' hb
    refine a_iv4 (y := nI (2 * (i + 1))) rfl rfl rfl (n22 i) ?_
    refine a_goto rfl ?_
    exact ih (e / 2 - (i + 1)) _ _ (by omega) ⟨i + 1, by rw [hb], rfl, by omega, rfl⟩
  cases ho : inF T (vp W 0 j) i with
  | false =>
    refine a_l3 rfl rfl rfl ?_
    refine a_if_eq rfl (fun _ => ?_) (fun c => absurd rfl c)
    refine a_s rfl rfl ?_
    refine a_s3 rfl rfl rfl rfl rfl rfl ?_
    exact back false (by rw [inF_s, ho, Bool.false_and])
  | true =>
  refine a_l3 rfl rfl rfl ?_
  refine a_if_eq rfl (fun c => absurd c (by decide)) (fun _ => ?_)
  refine a_l0 rfl rfl rfl ?_
  refine a_l2 rfl rfl rfl ?_
  refine a_s rfl rfl ?_
  refine a_eV1 rfl lX12_252 mo_X12_ofPerson (sp_X12_ofPerson (d := j) (k := 0) (by omega) (by decide)) rfl rfl rfl ⟨12, _, rfl, rfl, rfl⟩ rfl ?_
  refine a_top (y := vp W 0 j) (by rw [e21]) ?_
  refine a_l0 rfl rfl rfl ?_
  refine a_getq rfl gfX12_29_12 rfl (rfl) ?_
  refine a_l4 rfl rfl rfl ?_
  refine a_baldv (v := T (2 * i)) rfl (n := 400) rfl (inI_nI (by omega) (by omega)) (by rw [nI_clamp (by omega), e26]) ?_
  refine a_l0 rfl rfl rfl ?_
  refine a_getq rfl gfX12_29_12 rfl (rfl) ?_
  refine a_l4 rfl rfl rfl ?_
  refine a_s rfl rfl ?_
  refine a_s rfl rfl ?_
  refine a_top (y := nI (2 * i + 1)) ((nI_succ _).symm) ?_
  refine a_baldv (v := T (2 * i + 1)) rfl (n := 400) rfl (inI_nI (by omega) (by omega)) (by rw [nI_clamp (by omega), e26]) ?_
  refine a_eS1 rfl lX12_70 mo_X12_in sp_X12_in rfl rfl rfl rfl ?_
  cases h2 : inB (vp W 0 j) (T (2 * i)) (T (2 * i + 1)) with
  | false =>
    refine a_if_eq rfl (fun _ => ?_) (fun c => absurd rfl c)
    refine a_s rfl rfl ?_
    refine a_s3 rfl rfl rfl rfl rfl rfl ?_
    exact back false (by rw [inF_s, h2, Bool.and_false])
  | true =>
    refine a_if_eq rfl (fun c => absurd c (by decide)) (fun _ => ?_)
    refine a_s rfl rfl ?_
    refine a_goto rfl ?_
    refine a_s3 rfl rfl rfl rfl rfl rfl ?_
    exact back true (by rw [inF_s, ho, h2]; rfl)
theorem told_ev (h : toldF T e = true) : e % 2 = 0 := by
  unfold toldF at h
  rw [Bool.and_eq_true] at h
  exact (of_decide_eq_true h.1).1
theorem hq_whose (h : Sz J) (e2 : J 202 = T) (e1 : J 421 = W) (he : J 420 9 = nI e) (h4 : e ≤ 400) : Sp S m_X12_whose 16 0 0 [.ref 420] (hp J L w1 w2 t) (fun v h' => ∃ y K, v = some (.int y) ∧ h' = hp K L w1 w2 t ∧ Uz (dn (J 421)) (pn (J 421)) J K ∧ K 420 0 = vWs T e ∧ (vWs T e = 0 → y = fitW T W e)) nX := by
  have so := h.ri.so
  have h6 : pn W ≤ 6 := by
    rw [← e1]
    exact so.p
  have h0 : W 0 = nI (pn W) := by
    rw [← e1]
    exact so.pu
  refine Sp_of ok_X12_whose rfl rfl ?_
  show AW S m_X12_whose 16 _ _ 0 0 0 [some (.ref 420)] [] (hp J L w1 w2 t)
  refine a_l0 rfl rfl rfl ?_
  refine a_eV0 rfl lX12_232 mo_X12_uses r_X12_uses rfl rfl rfl ⟨12, _, rfl, rfl, rfl⟩ rfl ?_
  refine a_ren (P := fun K => Uz (dn (J 421)) (pn (J 421)) J K ∧ K 420 11 = nI e ∧ K 421 = W ∧ K 426 = T ∧ K 420 0 = 0) ⟨Uz.mk h.ri, usH_11.trans he, (usH_row (by decide)).trans e1, (usH_row (by decide)).trans (h.1.2.1.trans e2), usH_0⟩ (fun K hK => ?_)
  obtain ⟨f, k11, k21, k26, k0⟩ := hK
  refine a_l0 rfl rfl rfl ?_
  refine a_l0 rfl rfl rfl ?_
  refine a_eV1 rfl lX12_438 mo_X12_isTold (h_isTold k26 k11 h4) rfl rfl rfl ⟨12, _, rfl, rfl, rfl⟩ rfl ?_
  cases hz : toldF T e with
  | false =>
    have c1 : vWs T e = 1 := if_neg (by rw [hz]; exact Bool.false_ne_true)
    refine a_if_ne rfl (fun c => absurd rfl c) (fun _ => ?_)
    refine a_s rfl rfl ?_
    refine a_goto rfl ?_
    refine a_s rfl rfl ?_
    refine a_eV1 rfl lX12_243 mo_X12_throwsIf (h_throwsIf (z := true)) rfl rfl rfl ⟨12, _, rfl, rfl, rfl⟩ rfl ?_
    rw [if_pos rfl]
    refine a_if_eq rfl (fun c => absurd c (by decide)) (fun _ => ?_)
    refine a_s rfl rfl ?_
    refine a_goto rfl ?_
    exact a_iret rfl rfl ⟨0, _, rfl, rfl, f.fm (Fm.up Fm.rf rfl), up2_at.trans c1.symm, fun z => absurd (c1.symm.trans z) (by decide)⟩
  | true =>
    have c0 : vWs T e = 0 := if_pos hz
    refine a_if_ne rfl (fun _ => ?_) (fun c => absurd c (by decide))
    refine a_s rfl rfl ?_
    refine a_s rfl rfl ?_
    refine a_eV1 rfl lX12_243 mo_X12_throwsIf (h_throwsIf (z := false)) rfl rfl rfl ⟨12, _, rfl, rfl, rfl⟩ rfl ?_
    rw [if_neg Bool.false_ne_true]
    refine a_if_eq rfl (fun _ => ?_) (fun c => absurd rfl c)
    refine a_l0 rfl rfl rfl ?_
    refine a_eV1 rfl lX12_441 mo_X12_allThatFit (h_allThatFit k26 k21 k11 h4 (told_ev hz) h0 h6) rfl rfl rfl ⟨12, _, rfl, rfl, rfl⟩ rfl ?_
    exact a_iret rfl rfl ⟨_, K, rfl, rfl, f, k0.trans c0.symm, fun _ => rfl⟩
theorem hq_ask (h : Sz J) (e2 : J 202 = T) (e1 : J 421 = W) (he : J 420 9 = nI e) (h4 : e ≤ 400) : Sp S m_X12_ask 16 0 0 [.ref 420] (hp J L w1 w2 t) (fun v h' => ∃ y K, v = some (.int y) ∧ h' = hp K L w1 w2 t ∧ Uz (dn (J 421)) (pn (J 421)) J K ∧ K 420 0 = vWs T e ∧ (vWs T e = 0 → y = askW T W e)) nX := by
  have so := h.ri.so
  have h6 : pn W ≤ 6 := by
    rw [← e1]
    exact so.p
  have h0 : W 0 = nI (pn W) := by
    rw [← e1]
    exact so.pu
  refine Sp_of ok_X12_ask rfl rfl ?_
  show AW S m_X12_ask 16 _ _ 0 0 0 [some (.ref 420), none, none, none, none, none, none, none] [] (hp J L w1 w2 t)
  refine a_l0 rfl rfl rfl ?_
  refine a_eV0 rfl lX12_232 mo_X12_uses r_X12_uses rfl rfl rfl ⟨12, _, rfl, rfl, rfl⟩ rfl ?_
  refine a_ren (P := fun K => Uz (dn (J 421)) (pn (J 421)) J K ∧ K 420 11 = nI e ∧ K 421 = W ∧ K 426 = T ∧ K 420 0 = 0) ⟨Uz.mk h.ri, usH_11.trans he, (usH_row (by decide)).trans e1, (usH_row (by decide)).trans (h.1.2.1.trans e2), usH_0⟩ (fun K hK => ?_)
  obtain ⟨f, k11, k21, k26, k0⟩ := hK
  refine a_l0 rfl rfl rfl ?_
  refine a_l0 rfl rfl rfl ?_
  refine a_eV1 rfl lX12_438 mo_X12_isTold (h_isTold k26 k11 h4) rfl rfl rfl ⟨12, _, rfl, rfl, rfl⟩ rfl ?_
  cases hz : toldF T e with
  | false =>
    have c1 : vWs T e = 1 := if_neg (by rw [hz]; exact Bool.false_ne_true)
    refine a_if_ne rfl (fun c => absurd rfl c) (fun _ => ?_)
    refine a_s rfl rfl ?_
    refine a_goto rfl ?_
    refine a_s rfl rfl ?_
    refine a_eV1 rfl lX12_243 mo_X12_throwsIf (h_throwsIf (z := true)) rfl rfl rfl ⟨12, _, rfl, rfl, rfl⟩ rfl ?_
    rw [if_pos rfl]
    refine a_if_eq rfl (fun c => absurd c (by decide)) (fun _ => ?_)
    refine a_s rfl rfl ?_
    exact a_iret rfl rfl ⟨0, _, rfl, rfl, f.fm (Fm.up Fm.rf rfl), up2_at.trans c1.symm, fun z => absurd (c1.symm.trans z) (by decide)⟩
  | true =>
  have c0 : vWs T e = 0 := if_pos hz
  refine a_if_ne rfl (fun _ => ?_) (fun c => absurd c (by decide))
  refine a_s rfl rfl ?_
  refine a_s rfl rfl ?_
  refine a_eV1 rfl lX12_243 mo_X12_throwsIf (h_throwsIf (z := false)) rfl rfl rfl ⟨12, _, rfl, rfl, rfl⟩ rfl ?_
  rw [if_neg Bool.false_ne_true]
  refine a_if_eq rfl (fun _ => ?_) (fun c => absurd rfl c)
  refine a_l0 rfl rfl rfl ?_
  refine a_eV1 rfl lX12_441 mo_X12_allThatFit (h_allThatFit k26 k21 k11 h4 (told_ev hz) h0 h6) rfl rfl rfl ⟨12, _, rfl, rfl, rfl⟩ rfl ?_
  have fin : ∀ v, v = askW T W e → (fun (v : Option Value) (h' : aH) => ∃ y K, v = some (.int y) ∧ h' = hp K L w1 w2 t ∧ Uz (dn (J 421)) (pn (J 421)) J K ∧ K 420 0 = vWs T e ∧ (vWs T e = 0 → y = askW T W e)) (some (.int v)) (hp K L w1 w2 t) := fun v hv => ⟨v, K, rfl, rfl, f, k0.trans c0.symm, fun _ => hv⟩
  generalize (fun (v : Option Value) (h' : aH) => ∃ y K, v = some (.int y) ∧ h' = hp K L w1 w2 t ∧ Uz (dn (J 421)) (pn (J 421)) J K ∧ K 420 0 = vWs T e ∧ (vWs T e = 0 → y = askW T W e)) = Q at fin ⊢
  show AW S m_X12_ask 16 Q nX 0 0 30 [some (.ref 420), none, none, none, none, none, none, none] [.int (bs (pn W) (fun p => inF T (vp W 0 p) (e / 2)))] (hp K L w1 w2 t)
  have eA : askW T W e = askF (fun p => inF T (vp W 0 p) (e / 2)) W (pn W) := rfl
  rw [eA] at fin
  generalize (fun p => inF T (vp W 0 p) (e / 2)) = P at fin ⊢
  generalize hn : pn W = n at *
  have cl := cntF_le n P
  refine a_s1 rfl rfl rfl rfl rfl rfl ?_
  refine a_l1 rfl rfl rfl ?_
  refine a_eS1 rfl lX12_310 mo_J6_bitCount_0f7a4 (sp_bitCount) rfl rfl rfl rfl ?_
  rw [bc_bs (by omega)]
  refine a_s2 rfl rfl rfl rfl rfl rfl ?_
  refine a_s rfl rfl ?_
  refine a_s3 rfl rfl rfl rfl rfl rfl ?_
  refine a_ldcw rfl kX12_401 ?_
  refine a_s4 rfl rfl rfl rfl rfl rfl ?_
  refine a_s rfl rfl ?_
  refine a_s5 rfl rfl rfl rfl rfl rfl ?_
  by_cases c2 : cntF n P < 2
  · refine a_l5 rfl rfl rfl ?_
    refine a_s rfl rfl ?_
    refine a_ic_ge rfl (fun c => absurd c (by decide)) (fun _ => ?_)
    refine a_l2 rfl rfl rfl ?_
    refine a_s rfl rfl ?_
    refine a_ic_le rfl (fun _ => ?_) (fun c => absurd (nI_leu (n := cntF n P) (j := 1) (by omega) (by decide)) c)
    refine a_l3 rfl rfl rfl ?_
    exact a_iret rfl rfl (fin _ (by unfold askF; rw [if_pos c2]))
  refine a_inv (n := 15) (fun m ls hh => ∃ k B u6 u7, ls = [some (.ref 420), some (.int (bs n P)), some (.int (nI (cntF n P))), some (.int (akF P W n k).1), some (.int (nI B)), some (.int (nI k)), u6, u7] ∧ hh = hp K L w1 w2 t ∧ k ≤ 15 ∧ m = 15 - k ∧ (B = if k = 0 then 1000000 else (akF P W n k).2)) ⟨0, 1000000, none, none, rfl, rfl, by decide, rfl, rfl⟩ ?_
  rintro m _ _ ⟨k, B, u6, u7, rfl, rfl, hk, hm, hB⟩ ih
  refine a_l5 rfl rfl rfl ?_
  refine a_s rfl rfl ?_
  by_cases hk15 : k < 15
  case neg =>
    obtain rfl : k = 15 := by omega
    refine a_ic_ge rfl (fun _ => ?_) (fun c => absurd (show (15 : Int32) ≤ nI 15 by decide) c)
    refine a_l3 rfl rfl rfl ?_
    exact a_iret rfl rfl (fin _ (by unfold askF; rw [if_neg c2]))
  refine a_ic_ge rfl (fun c => absurd (nI_ge_of (b := 15) c (by omega) (by decide)) (by omega)) (fun _ => ?_)
  refine a_l2 rfl rfl rfl ?_
  refine a_s rfl rfl ?_
  refine a_ic_le rfl (fun c => absurd (nI_ge_of (a := 1) c (by decide) (by omega)) (by omega)) (fun _ => ?_)
  refine a_s rfl rfl ?_
  refine a_s6 rfl rfl rfl rfl rfl rfl ?_
  refine a_s rfl rfl ?_
  refine a_s7 rfl rfl rfl rfl rfl rfl ?_
  have ck := cK_le (P := P) (W := W) (n := n) (k := k)
  have gk := gK_le (P := P) (W := W) (n := n) (k := k)
  have ak := akF_le (P := P) (W := W) (n := n) k
  have hB3 : B ≤ 1000000 ∧ (gK P W n k < B ↔ gK P W n k < (akF P W n k).2) := by
    by_cases ck0 : k = 0
    · rw [if_pos ck0] at hB
      subst ck0
      have e0 : (akF P W n 0).2 = cntF n P + 1 := rfl
      rw [e0]
      omega
    · rw [if_neg ck0] at hB
      rw [hB]
      exact ⟨by omega, Iff.rfl⟩
  refine a_inv (n := n) (fun m ls hh => ∃ j, ls = [some (.ref 420), some (.int (bs n P)), some (.int (nI (cntF n P))), some (.int (akF P W n k).1), some (.int (nI B)), some (.int (nI k)), some (.int (nI (cntF j (fun p => P p && decide (vp W 0 p ≤ nI k))))), some (.int (nI j))] ∧ hh = hp K L w1 w2 t ∧ j ≤ n ∧ m = n - j) ⟨0, rfl, rfl, Nat.zero_le _, rfl⟩ ?_
  rintro m2 _ _ ⟨j, rfl, rfl, hj, hm2⟩ ihj
  refine a_l7 rfl rfl rfl ?_
  refine a_l0 rfl rfl rfl ?_
  refine a_eV1 rfl lX12_66 mo_X12_people sp_X12_people rfl rfl rfl ⟨12, _, rfl, rfl, rfl⟩ rfl ?_
  refine a_top (y := nI n) (by rw [k21]; exact h0) ?_
  refine a_ic_ge rfl (fun c => ?_) (fun c => ?_)
  · have hge := nI_ge_of c (by omega) (by omega)
    obtain rfl : j = n := by omega
    refine a_l6 rfl rfl rfl ?_
    refine a_l2 rfl rfl rfl ?_
    refine a_l6 rfl rfl rfl ?_
    refine a_s rfl rfl ?_
    refine a_top (y := nI (cntF j P - cK P W j k)) (nI_sub ck) ?_
    refine a_max rfl lX12_265 mj_max rfl rfl ?_
    refine a_top (y := nI (gK P W j k)) (mx_nI (a := cK P W j k) (b := cntF j P - cK P W j k) (by omega) (by omega)) ?_
    refine a_s7 rfl rfl rfl rfl rfl rfl ?_
    refine a_l7 rfl rfl rfl ?_
    refine a_l4 rfl rfl rfl ?_
    refine a_ic_ge rfl (fun c3 => ?_) (fun c3 => ?_)
    · have g3 := nI_ge_of c3 (by omega) (by omega)
      have e : akF P W j (k + 1) = akF P W j k := by rw [akF_s, if_neg (fun z => by have := hB3.2.mpr z; omega)]
      refine a_l3 rfl rfl rfl ?_
      refine a_s3 rfl rfl rfl rfl rfl rfl ?_
      refine a_l4 rfl rfl rfl ?_
      refine a_l7 rfl rfl rfl ?_
      refine a_min rfl lX12_295 mj_min rfl rfl ?_
      refine a_top (y := nI B) (if_neg (nI_nlu g3 (by omega))) ?_
      refine a_s4 rfl rfl rfl rfl rfl rfl ?_
      refine a_iv5 (y := nI (k + 1)) rfl rfl rfl ((nI_succ k).symm) ?_
      refine a_goto rfl ?_
      refine ih (15 - (k + 1)) _ _ (by omega) ⟨k + 1, B, _, _, by rw [e], rfl, hk15, rfl, ?_⟩
      rw [if_neg (Nat.succ_ne_zero k), e]
      by_cases ck0 : k = 0
      · exfalso
        rw [if_pos ck0] at hB
        omega
      · rw [hB, if_neg ck0]
    · have g3 := nI_lt_of c3 (by omega) (by omega)
      have e : akF P W j (k + 1) = (nI k, gK P W j k) := by rw [akF_s, if_pos (hB3.2.mp g3)]
      refine a_l5 rfl rfl rfl ?_
      refine a_goto rfl ?_
      refine a_s3 rfl rfl rfl rfl rfl rfl ?_
      refine a_l4 rfl rfl rfl ?_
      refine a_l7 rfl rfl rfl ?_
      refine a_min rfl lX12_295 mj_min rfl rfl ?_
      refine a_top (y := nI (gK P W j k)) (if_pos (nI_ltu g3 (by omega))) ?_
      refine a_s4 rfl rfl rfl rfl rfl rfl ?_
      refine a_iv5 (y := nI (k + 1)) rfl rfl rfl ((nI_succ k).symm) ?_
      refine a_goto rfl ?_
      exact ih (15 - (k + 1)) _ _ (by omega) ⟨k + 1, gK P W j k, _, _, by rw [e], rfl, hk15, rfl, by rw [if_neg (Nat.succ_ne_zero k), e]⟩
  have hjn := nI_lt_of c (by omega) (by omega)
  have nx : ∀ z : Bool, (P j && decide (vp W 0 j ≤ nI k)) = z → AW S m_X12_ask 16 Q nX 0 0 101 [some (.ref 420), some (.int (bs n P)), some (.int (nI (cntF n P))), some (.int (akF P W n k).1), some (.int (nI B)), some (.int (nI k)), some (.int (nI (cntF j (fun p => P p && decide (vp W 0 p ≤ nI k))))), some (.int (nI j))] [.int (bI z), .int (nI (cntF j (fun p => P p && decide (vp W 0 p ≤ nI k))))] (hp K L w1 w2 t) := fun z hz => by
    refine a_s rfl rfl ?_
    cases z with
    | false =>
      refine a_top (y := nI (cntF (j + 1) (fun p => P p && decide (vp W 0 p ≤ nI k)))) ((by rw [cntF_f (n := j) (P := fun p => P p && decide (vp W 0 p ≤ nI k)) hz]; exact Int32.add_zero _)) ?_
      refine a_s6 rfl rfl rfl rfl rfl rfl ?_
      refine a_iv7 (y := nI (j + 1)) rfl rfl rfl ((nI_succ j).symm) ?_
      refine a_goto rfl ?_
      exact ihj (n - (j + 1)) _ _ (by omega) ⟨j + 1, rfl, rfl, hjn, rfl⟩
    | true =>
      refine a_top (y := nI (cntF (j + 1) (fun p => P p && decide (vp W 0 p ≤ nI k)))) ((by rw [cntF_t (n := j) (P := fun p => P p && decide (vp W 0 p ≤ nI k)) hz, nI_succ]; rfl)) ?_
      refine a_s6 rfl rfl rfl rfl rfl rfl ?_
      refine a_iv7 (y := nI (j + 1)) rfl rfl rfl ((nI_succ j).symm) ?_
      refine a_goto rfl ?_
      exact ihj (n - (j + 1)) _ _ (by omega) ⟨j + 1, rfl, rfl, hjn, rfl⟩
  refine a_l6 rfl rfl rfl ?_
  refine a_l1 rfl rfl rfl ?_
  refine a_l7 rfl rfl rfl ?_
  refine a_eS1 rfl lX12_304 mo_X12_has sp_X12_has rfl rfl rfl rfl ?_
  rw [shb_bs (by omega) (by omega), decide_eq_true hjn, Bool.true_and]
  cases hp1 : P j with
  | false =>
    refine a_if_eq rfl (fun _ => ?_) (fun c => absurd rfl c)
    refine a_s rfl rfl ?_
    exact nx false (by rw [hp1, Bool.false_and])
  | true =>
  refine a_if_eq rfl (fun c => absurd c (by decide)) (fun _ => ?_)
  refine a_l0 rfl rfl rfl ?_
  refine a_l7 rfl rfl rfl ?_
  refine a_s rfl rfl ?_
  refine a_eV1 rfl lX12_252 mo_X12_ofPerson (sp_X12_ofPerson (d := j) (k := 0) (by omega) (by decide)) rfl rfl rfl ⟨12, _, rfl, rfl, rfl⟩ rfl ?_
  refine a_top (y := vp W 0 j) (by rw [k21]) ?_
  refine a_l5 rfl rfl rfl ?_
  refine a_ic_gt rfl (fun c3 => ?_) (fun c3 => ?_)
  · refine a_s rfl rfl ?_
    exact nx false (by rw [hp1, Bool.true_and]; exact decide_eq_false (Int32.not_le.mpr c3))
  · refine a_s rfl rfl ?_
    refine a_goto rfl ?_
    exact nx true (by rw [hp1, Bool.true_and]; exact decide_eq_true (Int32.not_lt.mp c3))
end T79zzr
