/-! ===== all that is known of both between two operations, with the relation ===== -/
section T79zs
variable {I J K : Nat → Nat → Int32} {L : Nat → Nat → Int64} {w1 w2 t n fa nd np : Nat} {W : Nat → Int32} {c y val : Int32} {l : Int64} {ov : Option Value} {h' : aH}
set_option maxRecDepth 100000
def Sy (I : Nat → Nat → Int32) : Prop := (CI I ∧ Tp I) ∧ (Sim I ∧ I 200 3 = I 420 14) ∧ ∃ l, l ≤ 400 ∧ I 201 1 = nI l ∧ I 420 9 = nI l
/-- the class has used its tape up, the reference not yet -/
def Sz (I : Nat → Nat → Int32) : Prop := (CI I ∧ Tp I) ∧ (Sim I ∧ I 200 3 = I 420 14) ∧ I 201 1 = 0 ∧ ∃ l, l ≤ 400 ∧ I 420 9 = nI l
theorem Sim.ps (h : Sim I) : ∃ n fa, PsN I n fa := h.2.2.2
theorem Sy.sim (h : Sy I) : Sim I := h.2.1.1
theorem Sy.nm (h : Sy I) : Nm I 235 (I 421) := h.2.1.1.1
theorem Sy.nl (h : Sy I) : Nl I 246 (I 421) := h.2.1.1.2.1
theorem Sy.ri (h : Sy I) : RI (dn (I 421)) (pn (I 421)) I := h.2.1.1.ri
theorem Sz.ri (h : Sz I) : RI (dn (I 421)) (pn (I 421)) I := h.2.1.1.ri
theorem RI.rows (h : RI nd np I) (e : ∀ q, 420 ≤ q → J q = I q) : RI nd np J := h.eq (e 421 (by decide)) (e 422 (by decide)) (e 425 (by decide)) (congrFun (e 420 (by decide)) 6) (congrFun (e 420 (by decide)) 7)
theorem CI.rows (h : CI I) (e : ∀ q, q < 420 → J q = I q) : CI J := fun a ha h2 => by
  rw [e a (by have := stp_hi a ha; omega)]
  exact h a ha h2
theorem sQ_no {q k : Nat} (h : q < 252 ∨ 268 ≤ q) : sQ q k = false := by
  unfold sQ
  rw [beqF (show q ≠ 252 by omega), beqF (show q ≠ 253 by omega), beqF (show q ≠ 255 by omega), beqF (show q ≠ 256 by omega)]
  rcases h with h | h
  · have e : Nat.ble 257 q = false := by
      cases hb : Nat.ble 257 q with
      | false => rfl
      | true => exact absurd (Nat.le_of_ble_eq_true hb) (by omega)
    rw [e]
    rfl
  · have e : Nat.ble q 267 = false := by
      cases hb : Nat.ble q 267 with
      | false => rfl
      | true => exact absurd (Nat.le_of_ble_eq_true hb) (by omega)
    rw [e]
    cases Nat.ble 257 q <;> rfl
theorem sV_lo4 {q k : Nat} (h : q < 420) : sV q k = false := by
  unfold sV sU
  rw [beqF (show q ≠ 428 by omega), beqF (show q ≠ 429 by omega), beqF (show q ≠ 420 by omega), beqF (show q ≠ 424 by omega)]
  rfl
/-- a question to the class -/
theorem Sy.q (h : Sy I) (f : Fm sQ I J) : Sy J := by
  have m := Mt.of (Fm.mo f sQ_sM)
  obtain ⟨⟨h1, h2⟩, ⟨h3, h6⟩, l, h4, h5, h7⟩ := h
  have row : ∀ q, (q < 252 ∨ 268 ≤ q) → J q = I q := fun q hq => funext fun k => f q k (sQ_no hq)
  have r2 := row 200 (by decide)
  have r4 := row 420 (by decide)
  refine ⟨⟨m.2.2.2.1 h1, h2.m m⟩, ⟨h3.eq (fun q _ _ g3 => row q g3) (row 421 (by decide)) (row 422 (by decide)) (row 425 (by decide)) (congrFun r2 10) (congrFun r2 12) (congrFun r2 13) (congrFun r4 6) (congrFun r4 7), ?_⟩, l, h4, (congrFun (row 201 (by decide)) 1).trans h5, (congrFun r4 9).trans h7⟩
  rw [r2, r4]
  exact h6
/-- a question to the reference -/
theorem Sy.v (h : Sy I) (f : Fm sV I J) : Sy J := by
  obtain ⟨⟨h1, h2⟩, ⟨h3, h6⟩, l, h4, h5, h7⟩ := h
  have row : ∀ q, q < 420 → J q = I q := fun q hq => funext fun k => f q k (sV_lo4 hq)
  have r2 := row 200 (by decide)
  refine ⟨⟨h1.rows row, h2.r fun q hq => ?_⟩, ⟨h3.eq (fun q _ g2 _ => row q g2) (funext fun k => f 421 k rfl) (funext fun k => f 422 k rfl) (funext fun k => f 425 k rfl) (congrFun r2 10) (congrFun r2 12) (congrFun r2 13) (f 420 6 rfl) (f 420 7 rfl), ?_⟩, l, h4, (congrFun (row 201 (by decide)) 1).trans h5, (f 420 9 rfl).trans h7⟩
  · rcases hq with hq | hq
    · exact row q hq
    · rw [hq]
      exact funext fun k => f 426 k rfl
  · rw [r2, show J 420 14 = I 420 14 from f 420 14 rfl]
    exact h6
theorem Sy.u (h : Sy I) (f : Fm sU I J) : Sy J := Sy.v h (Fm.mo f sU_sV)
/-- a text with no street: the class uses it up, the reference too -/
theorem Sy.z1 (h : Sy I) : Sz (up2 I 201 1 0) := by
  have m := Mt0.all (Mt0.mk (Mt.rf (I := I)))
  obtain ⟨⟨h1, h2⟩, ⟨h3, h6⟩, l, h4, h5, h7⟩ := h
  have row : ∀ q, q ≠ 201 → up2 I 201 1 0 q = I q := fun q hq => up2_row hq
  have r2 := row 200 (by decide)
  have r4 := row 420 (by decide)
  refine ⟨⟨m.2.2.2.1 h1, h2.eq (row 426 (by decide)) (row 202 (by decide)) (congrFun (row 203 (by decide)) 1) (congrFun (row 220 (by decide)) 1)⟩, ⟨h3.eq (fun q g1 _ _ => row q (by omega)) (row 421 (by decide)) (row 422 (by decide)) (row 425 (by decide)) (congrFun r2 10) (congrFun r2 12) (congrFun r2 13) (congrFun r4 6) (congrFun r4 7), ?_⟩, m.2.1, l, h4, (congrFun r4 9).trans h7⟩
  rw [r2, r4]
  exact h6
theorem Sz.uz (h : Sz I) (f : Uz nd np I J) : Sy J := by
  obtain ⟨⟨h1, h2⟩, ⟨h3, h6⟩, h5, -⟩ := h
  obtain ⟨⟨g1, g2, g3, -⟩, f⟩ := f
  have r2 := g1 200 (by decide)
  refine ⟨⟨h1.rows fun q hq => g1 q (Or.inl hq), h2.r g1⟩, ⟨h3.eq (fun q _ g2 _ => g1 q (Or.inl g2)) (funext fun k => f 421 k rfl) (funext fun k => f 422 k rfl) (funext fun k => f 425 k rfl) (congrFun r2 10) (congrFun r2 12) (congrFun r2 13) g3 (f 420 7 rfl), ?_⟩, 0, by decide, (congrFun (g1 201 (by decide)) 1).trans h5, g2⟩
  rw [r2, show J 420 14 = I 420 14 from f 420 14 rfl]
  exact h6
theorem stp_past : ∀ i, i < 12 → 288 + 11 * i ∈ stps := by decide +kernel
theorem stp_far2 : ∀ a ∈ stps, a ≠ 235 → (a < 235 ∨ 245 < a) ∧ a ≠ 252 ∧ a ≠ 253 ∧ a < 420 := by decide +kernel
theorem Mt_reS : Mt I (reS I n fa) := by
  unfold reS
  by_cases e : n = 12
  · rw [if_pos e]
    exact Mt.fm (Mt.tr (Mt.of (Fm.up (Fm.up Fm.rf rfl) rfl)) (Mt.cpA (stp_past _ (Nat.mod_lt _ (by decide))) (by decide) (by decide))) (Fm.up Fm.rf rfl)
  · rw [if_neg e]
    exact Mt.fm (Mt.cpA (stp_past _ (Nat.mod_lt _ (by decide))) (by decide) (by decide)) (Fm.up Fm.rf rfl)
/-- behind an act of both, or days -/
theorem Sy.of (h : Sy I) (hs : Sim K) (f : ∀ q, q < 420 → (q < 235 ∨ 245 < q) → q ≠ 252 → q ≠ 253 → K q = reS I n fa q) (e6 : K 426 = I 426) (e14 : K 420 14 = I 420 14) (e9 : K 420 9 = I 420 9) : Sy K := by
  obtain ⟨⟨h1, h2⟩, ⟨h3, h6⟩, l, h4, h5, h7⟩ := h
  have m : Mt I (reS I n fa) := Mt_reS
  have hn := hs.1
  refine ⟨⟨fun a ha h8 => ?_, ?_⟩, ⟨hs, ?_⟩, l, h4, ?_, e9.trans h7⟩
  · by_cases e : a = 235
    · subst e
      exact ⟨dn (K 421), hn.2.2.1.2.1, (Sd.fd hn.1 (f := 3) (g := 1) (by decide)).trans hn.2.2.1.2.2.2⟩
    · obtain ⟨a1, a2, a3, a4⟩ := stp_far2 a ha e
      rw [f a a4 a1 a2 a3]
      exact m.2.2.2.1 h1 a ha h8
  · exact h2.eq e6 ((f 202 (by decide) (by decide) (by decide) (by decide)).trans m.2.2.2.2.1) ((congrFun (f 203 (by decide) (by decide) (by decide) (by decide)) 1).trans m.2.2.2.2.2.1) ((congrFun (f 220 (by decide) (by decide) (by decide) (by decide)) 1).trans m.2.2.2.2.2.2)
  · rw [f 200 (by decide) (by decide) (by decide) (by decide), reS_el (by decide) (by decide), e14]
    exact h6
  · rw [f 201 (by decide) (by decide) (by decide) (by decide)]
    exact m.2.1.trans h5
/-- what an act of the class did: c what it threw -/
def AcJ (c y : Int32) (l : Int64) (val : Int32) (J F I : Nat → Nat → Int32) : Prop := (c = 0 ∧ y = 0 ∧ l = val.toInt64 ∧ J = F) ∨ (¬ c = 0 ∧ y = c ∧ J = I)
theorem AcJ.up {F : Nat → Nat → Int32} (h : AcJ c y l val J F I) (f : ∀ q, 420 ≤ q → F q = I q) : ∀ q, 420 ≤ q → J q = I q := by
  rcases h with ⟨_, _, _, rfl⟩ | ⟨_, _, rfl⟩
  · exact f
  · exact fun _ _ => rfl
theorem AcJ.st {F : Nat → Nat → Int32} (h : AcJ c y l val J F I) : y = c := by
  rcases h with ⟨c0, y0, _, _⟩ | ⟨_, y0, _⟩
  · rw [c0, y0]
  · exact y0
theorem Sy.qa {fc fh : (Nat → Nat → Int32) → Nat → Nat → Int32} (h : Sy I) (hps : PsN I n fa) (kc : ∀ M q, (q < 235 ∨ 245 < q) → fc M q = M q) (kh : ∀ M q, q ≠ 421 → fh M q = M q) (kk : c = 0 → ∀ M k, (k = 3 ∨ 335 ≤ k) → fh M 421 k = M 421 k) (D : c = 0 → ∀ R M, Nm R 235 (I 421) → M 421 = I 421 → Nm (fc R) 235 (fh M 421)) (hJ : AcJ c y l val J (fc (reS I n fa)) I) (hv : QA J n c val fh L w1 w2 t ov h') : ∃ y2 K, ov = some (.int y2) ∧ h' = hp K L w1 w2 t ∧ Sy K ∧ K 420 0 = c ∧ (c = 0 → y2 = val) := by
  rcases hJ with ⟨c0, _, _, rfl⟩ | ⟨c0, _, rfl⟩
  · rcases hv with ⟨_, e1, e2⟩ | ⟨c1, _, _⟩
    · have r0 : ∀ q, 420 ≤ q → fc (reS I n fa) q = I q := fun q hq => by rw [kc _ q (by omega), reS_row (by omega) (by omega)]
      have r1 : ∀ q, q ≠ 420 → q ≠ 425 → remH (up2 (fc (reS I n fa)) 420 0 0) n q = fc (reS I n fa) q := fun q g1 g2 => by rw [remH_row g1 g2, up2_row g1]
      have r21 : remH (up2 (fc (reS I n fa)) 420 0 0) n 421 = I 421 := (r1 421 (by decide) (by decide)).trans (r0 421 (by decide))
      have hn0 : Nm (reS I n fa) 235 (I 421) := h.nm.eq fun q g1 g2 => reS_row (by omega) (by omega)
      have el : ∀ k, k ≠ 0 → k ≠ 7 → fh (remH (up2 (fc (reS I n fa)) 420 0 0) n) 420 k = I 420 k := fun k g1 g2 => by rw [kh _ 420 (by decide), remH_el g2, up2_ne (Or.inr g1), r0 420 (by decide)]
      refine ⟨val, _, e1, e2, Sy.of (n := n) (fa := fa) h (Sim.act (J := fc (reS I n fa)) h.sim hps (fun q g1 _ _ => kc _ q g1) (fun q g1 _ _ => kh _ q g1) (D c0 _ _ hn0 r21) ?_ fun k hk => ?_) (fun q g1 g2 _ _ => ?_) ?_ (el 14 (by decide) (by decide)) (el 9 (by decide) (by decide)), ?_, fun _ => rfl⟩
      · rw [kk c0 _ 3 (Or.inl rfl), r21]
      · rw [kk c0 _ k (Or.inr hk), r21]
      · rw [kh _ q (by omega), r1 q (by omega) (by omega), kc _ q g2]
      · rw [kh _ 426 (by decide), r1 426 (by decide) (by decide), r0 426 (by decide)]
      · rw [kh _ 420 (by decide), remH_el (by decide), up2_at, c0]
    · exact absurd c0 c1
  · rcases hv with ⟨c1, _, _⟩ | ⟨_, e1, e2⟩
    · exact absurd c1 c0
    · exact ⟨0, _, e1, e2, h.u (Fm.up (Fm.up Fm.rf rfl) rfl), up2_at, fun z => absurd z c0⟩
theorem vC_ix (hn : nd ≤ 12) {x : Int32} (h : vC nd W x = 0) : ixN x < nd := by
  unfold vC at h
  by_cases c : inB x 0 (nI nd - 1) = true
  · exact (ix_of hn c).1
  · rw [if_neg c] at h
    exact absurd h (by decide)
theorem vH_ix (hn : nd ≤ 12) {x y : Int32} (h : vH nd np W x y = 0) : ixN x < nd := by
  unfold vH at h
  by_cases c : inB x 0 (nI nd - 1) = true ∧ inB y 0 (nI np - 1) = true
  · exact (ix_of hn c.1).1
  · rw [if_neg c] at h
    exact absurd h (by decide)
theorem vL_ix (hn : nd ≤ 12) {x y : Int32} (h : vL nd x y = 0) : ixN x < nd := by
  unfold vL at h
  by_cases c : inB x 0 (nI nd - 1) = true ∧ (y = -1 ∨ inB y 0 (nI nd - 1) = true)
  · exact (ix_of hn c.1).1
  · rw [if_neg c] at h
    exact absurd h (by decide)
theorem vF_ix (hn : np ≤ 12) {x y : Int32} (h : vF np x y = 0) : ixN x < np := by
  unfold vF at h
  by_cases c : inB x 0 (nI np - 1) = true
  · exact (ix_of hn c).1
  · rw [if_neg c] at h
    exact absurd h (by decide)
theorem Sy.put (h : Sy I) (hps : PsN I n fa) {x : Int32} (hJ : AcJ (vS (dn (I 421)) (I 421) 0 x) y l (mn 99 (I 421 (23 + 6 * ixN x + 2) + 1)) J (up2 (reS I n fa) 240 (ixN x) (mn 99 (I 421 (23 + 6 * ixN x + 2) + 1))) I) (hv : QA J n (vS (dn (I 421)) (I 421) 0 x) (mn 99 (I 421 (23 + 6 * ixN x + 2) + 1)) (fun M => up2 M 421 (23 + 6 * ixN x + 2) (mn 99 (I 421 (23 + 6 * ixN x + 2) + 1))) L w1 w2 t ov h') : ∃ y2 K, ov = some (.int y2) ∧ h' = hp K L w1 w2 t ∧ Sy K ∧ K 420 0 = vS (dn (I 421)) (I 421) 0 x ∧ (vS (dn (I 421)) (I 421) 0 x = 0 → y2 = mn 99 (I 421 (23 + 6 * ixN x + 2) + 1)) := by
  have h12 := h.nm.2.2.1.2.1
  refine h.qa hps (fc := fun M => up2 M 240 (ixN x) (mn 99 (I 421 (23 + 6 * ixN x + 2) + 1))) (fun M q g => up2_row (by omega)) (fun M q g => up2_row g) (fun c0 M k g => up2_ne (Or.inr ?_)) (fun c0 R M hR hM => ?_) hJ hv
  · have := (vS_ix h12 c0).1
    omega
  · show Nm (up2 R 240 (ixN x) _) 235 (up2 M 421 (23 + 6 * ixN x + 2) _ 421)
    rw [up2_ud, hM]
    exact hR.put c0
theorem Sy.stt (h : Sy I) (hps : PsN I n fa) {x k val : Int32} {s : Nat} (hk : ¬ k = 1) (hs : s ≤ 2) (h1 : s ≠ 1) (hJ : AcJ (vS (dn (I 421)) (I 421) k x) y l val J (up2 (reS I n fa) 243 (ixN x) (nI s)) I) (hv : QA J n (vS (dn (I 421)) (I 421) k x) val (fun M => up2 M 421 (23 + 6 * ixN x + 5) (nI s)) L w1 w2 t ov h') : ∃ y2 K, ov = some (.int y2) ∧ h' = hp K L w1 w2 t ∧ Sy K ∧ K 420 0 = vS (dn (I 421)) (I 421) k x ∧ (vS (dn (I 421)) (I 421) k x = 0 → y2 = val) := by
  have h12 := h.nm.2.2.1.2.1
  refine h.qa hps (fc := fun M => up2 M 243 (ixN x) (nI s)) (fun M q g => up2_row (by omega)) (fun M q g => up2_row g) (fun c0 M k g => up2_ne (Or.inr ?_)) (fun c0 R M hR hM => ?_) hJ hv
  · have := (vS_ix h12 c0).1
    omega
  · show Nm (up2 R 243 (ixN x) _) 235 (up2 M 421 (23 + 6 * ixN x + 5) _ 421)
    rw [up2_ud, hM]
    exact hR.stt hk c0 hs h1
theorem Sy.hand (h : Sy I) (hps : PsN I n fa) {x z val : Int32} (hJ : AcJ (vH (dn (I 421)) (pn (I 421)) (I 421) x z) y l val J (up2 (reS I n fa) 238 (ixN x) z) I) (hv : QA J n (vH (dn (I 421)) (pn (I 421)) (I 421) x z) val (fun M => up2 M 421 (23 + 6 * ixN x + 0) z) L w1 w2 t ov h') : ∃ y2 K, ov = some (.int y2) ∧ h' = hp K L w1 w2 t ∧ Sy K ∧ K 420 0 = vH (dn (I 421)) (pn (I 421)) (I 421) x z ∧ (vH (dn (I 421)) (pn (I 421)) (I 421) x z = 0 → y2 = val) := by
  have h12 := h.nm.2.2.1.2.1
  refine h.qa hps (fc := fun M => up2 M 238 (ixN x) z) (fun M q g => up2_row (by omega)) (fun M q g => up2_row g) (fun c0 M k g => up2_ne (Or.inr ?_)) (fun c0 R M hR hM => ?_) hJ hv
  · have := vH_ix h12 c0
    omega
  · show Nm (up2 R 238 (ixN x) _) 235 (up2 M 421 (23 + 6 * ixN x + 0) _ 421)
    rw [up2_ud, hM]
    exact hR.hand c0
theorem Sy.lean (h : Sy I) (hps : PsN I n fa) {x z val : Int32} (hJ : AcJ (vL (dn (I 421)) x z) y l val J (up2 (reS I n fa) 242 (ixN x) z) I) (hv : QA J n (vL (dn (I 421)) x z) val (fun M => up2 M 421 (23 + 6 * ixN x + 4) z) L w1 w2 t ov h') : ∃ y2 K, ov = some (.int y2) ∧ h' = hp K L w1 w2 t ∧ Sy K ∧ K 420 0 = vL (dn (I 421)) x z ∧ (vL (dn (I 421)) x z = 0 → y2 = val) := by
  have h12 := h.nm.2.2.1.2.1
  refine h.qa hps (fc := fun M => up2 M 242 (ixN x) z) (fun M q g => up2_row (by omega)) (fun M q g => up2_row g) (fun c0 M k g => up2_ne (Or.inr ?_)) (fun c0 R M hR hM => ?_) hJ hv
  · have := vL_ix h12 c0
    omega
  · show Nm (up2 R 242 (ixN x) _) 235 (up2 M 421 (23 + 6 * ixN x + 4) _ 421)
    rw [up2_ud, hM]
    exact hR.lean c0
theorem Sy.free (h : Sy I) (hps : PsN I n fa) {x z val : Int32} (hJ : AcJ (vF (pn (I 421)) x z) y l val J (up2 (reS I n fa) 237 (ixN x) z) I) (hv : QA J n (vF (pn (I 421)) x z) val (fun M => up2 M 421 (11 + 2 * ixN x + 1) z) L w1 w2 t ov h') : ∃ y2 K, ov = some (.int y2) ∧ h' = hp K L w1 w2 t ∧ Sy K ∧ K 420 0 = vF (pn (I 421)) x z ∧ (vF (pn (I 421)) x z = 0 → y2 = val) := by
  have h6 := h.nm.2.2.1.1
  refine h.qa hps (fc := fun M => up2 M 237 (ixN x) z) (fun M q g => up2_row (by omega)) (fun M q g => up2_row g) (fun c0 M k g => up2_ne (Or.inr ?_)) (fun c0 R M hR hM => ?_) hJ hv
  · have := vF_ix (Nat.le_trans h6 (by decide)) c0
    omega
  · show Nm (up2 R 237 (ixN x) _) 235 (up2 M 421 (11 + 2 * ixN x + 1) _ 421)
    rw [up2_ud, hM]
    exact hR.free c0
theorem Sy.call (h : Sy I) (hps : PsN I n fa) {x val : Int32} (hJ : AcJ (vC (dn (I 421)) (I 421) x) y l val J (up2 (up2 (reS I n fa) 239 (ixN x) 0) 243 (ixN x) 1) I) (hv : QA J n (vC (dn (I 421)) (I 421) x) val (fun M => up2 (up2 M 421 (23 + 6 * ixN x + 1) 0) 421 (23 + 6 * ixN x + 5) 1) L w1 w2 t ov h') : ∃ y2 K, ov = some (.int y2) ∧ h' = hp K L w1 w2 t ∧ Sy K ∧ K 420 0 = vC (dn (I 421)) (I 421) x ∧ (vC (dn (I 421)) (I 421) x = 0 → y2 = val) := by
  have h12 := h.nm.2.2.1.2.1
  refine h.qa hps (fc := fun M => up2 (up2 M 239 (ixN x) 0) 243 (ixN x) 1) (fun M q g => ?_) (fun M q g => ?_) (fun c0 M k g => ?_) (fun c0 R M hR hM => ?_) hJ hv
  · show up2 (up2 M 239 (ixN x) 0) 243 (ixN x) 1 q = M q
    rw [up2_row (by omega), up2_row (by omega)]
  · show up2 (up2 M 421 (23 + 6 * ixN x + 1) 0) 421 (23 + 6 * ixN x + 5) 1 q = M q
    rw [up2_row g, up2_row g]
  · have := vC_ix h12 c0
    show up2 (up2 M 421 (23 + 6 * ixN x + 1) 0) 421 (23 + 6 * ixN x + 5) 1 421 k = M 421 k
    rw [up2_ne (Or.inr (by omega)), up2_ne (Or.inr (by omega))]
  · show Nm (up2 (up2 R 239 (ixN x) 0) 243 (ixN x) 1) 235 (up2 (up2 M 421 (23 + 6 * ixN x + 1) 0) 421 (23 + 6 * ixN x + 5) 1 421)
    rw [up2_ud, up2_ud, hM]
    exact hR.call c0
end T79zs
