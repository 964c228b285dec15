/-! ===== sums of shame, loads, shares; a person, a duty: exactly, on both sides ===== -/
section T79zw
variable {S : aS} {I J : Nat → Nat → Int32} {L : Nat → Nat → Int64} {w1 w2 t d p nl len : Nat} {cd fa fn : Nat → Nat} {W : Nat → Int32} {x1 x2 s : Int32}
set_option maxRecDepth 100000
theorem shame_same {a b : Nat} (h : Sd I a W) (hG : Rg W) (hL : LwS I b W nl len cd fa fn) (hd : d < dn W) : shameC I a b cd fa fn nl d = shameR W cd fa fn nl d := by
  have h12 := hG.1.2.1
  unfold shameC shameR
  rw [sum_same h hG hL hd, sum_same h hG hL hd, show I (a + 5) d = vd W 2 d from Sd.row (k := 2) h (by omega) (by decide)]
theorem sumG_F {f g : Nat → Int32} : ∀ {n : Nat}, n ≤ 12 → (∀ e, e < n → f e = g e) → sumG f s n = sumF g s n := by
  intro n
  induction n with
  | zero => exact fun _ _ => rfl
  | succ n ih =>
    intro hn h
    have h31 : n < 31 := by omega
    show (if hasF s (nI n) = true then sumG f s n + f n else sumG f s n) = (if shb s n = true then sumF g s n + g n else sumF g s n)
    rw [hasF_bt h31, shb_is h31, ih (by omega) fun e he => h e (by omega), h n (by omega)]
theorem sumF_cong {f g : Nat → Int32} : ∀ {n : Nat}, (∀ e, e < n → f e = g e) → sumF f s n = sumF g s n := by
  intro n
  induction n with
  | zero => exact fun _ => rfl
  | succ n ih =>
    intro h
    show (if shb s n = true then sumF f s n + f n else sumF f s n) = (if shb s n = true then sumF g s n + g n else sumF g s n)
    rw [ih fun e he => h e (by omega), h n (by omega)]
theorem Fm_q2 (h : ∀ q, q ≠ 252 → q ≠ 253 → J q = I q) : Fm sQ I J := fun q k hq => by
  by_cases c : q = 252
  · subst c
    cases hq
  · by_cases c2 : q = 253
    · subst c2
      cases hq
    · rw [h q c c2]
theorem LwS.q (lw : LwS I 246 (I 421) nl len cd fa fn) (f : Fm sQ I J) : LwS J 246 (J 421) nl len cd fa fn := by
  have e : J 421 = I 421 := funext fun k => f 421 k rfl
  exact LwS.eq lw (fun q g1 g2 => funext fun k => f q k (sQ_no (by omega))) (congrFun e 3) fun k _ => congrFun e k
theorem fq_set (h : Sy I) (lw : LwS I 246 (I 421) nl len cd fa fn) : Sp S m_X2_shameOfSet 17 0 0 [.ref 246, .ref 235, .int s] (hp I L w1 w2 t) (fun v h' => v = some (.int (sumF (shameR (I 421) cd fa fn nl) s (dn (I 421)))) ∧ ∃ J, h' = hp J L w1 w2 t ∧ Fm sQ I J) nX := by
  refine Sp.weaken (sp_X2_shameOfSet (nd := dn (I 421)) (a := 235) (b := 246) (by decide) (by decide) h.d3 h.n12 lw.1) (fun v h' hv => ?_) (fun E h' z => z)
  obtain ⟨rfl, J, rfl, hf⟩ := hv
  exact ⟨by rw [sumG_F h.n12 fun e he => shame_same h.nm.1 h.nm.2.2 lw he], J, rfl, Fm_q2 fun q g1 g2 => hf q g1 g2⟩
theorem fq_grow (h : Sy I) (lw : LwS I 246 (I 421) nl len cd fa fn) (hd : d < dn (I 421)) : Sp S m_X2_growthOf 16 0 0 [.ref 246, .ref 235, .int (nI d)] (hp I L w1 w2 t) (fun v h' => v = some (.int (sumR (I 421) cd fa fn nl d 0)) ∧ ∃ J, h' = hp J L w1 w2 t ∧ Fm sQ I J) nX := by
  have h12 := h.n12
  refine Sp.weaken (sp_X2_growthOf (a := 235) (b := 246) (by decide) (by decide) (by omega) lw.1) (fun v h' hv => ?_) (fun E h' z => z)
  obtain ⟨rfl, J, rfl, hf⟩ := hv
  exact ⟨by rw [grow_same h.nm.1 h.nm.2.2 lw hd], J, rfl, Fm_q2 fun q g1 g2 => hf q g1 g2⟩
theorem fq_shame (h : Sy I) (lw : LwS I 246 (I 421) nl len cd fa fn) (hd : d < dn (I 421)) : Sp S m_X2_shameOf 16 0 0 [.ref 246, .ref 235, .int (nI d)] (hp I L w1 w2 t) (fun v h' => v = some (.int (shameR (I 421) cd fa fn nl d)) ∧ ∃ J, h' = hp J L w1 w2 t ∧ Fm sQ I J) nX := by
  have h12 := h.n12
  refine Sp.weaken (sp_X2_shameOf (a := 235) (b := 246) (by decide) (by decide) (by omega) lw.1) (fun v h' hv => ?_) (fun E h' z => z)
  obtain ⟨rfl, J, rfl, hf⟩ := hv
  exact ⟨by rw [shame_same h.nm.1 h.nm.2.2 lw hd], J, rfl, Fm_q2 fun q g1 g2 => hf q g1 g2⟩
theorem sumF_hi {f : Nat → Int32} {P : Nat → Bool} {nd : Nat} (hn : nd ≤ 12) : ∀ m, nd + m ≤ 12 → sumF f (bs nd P) (nd + m) = sumF f (bs nd P) nd := by
  intro m
  induction m with
  | zero => exact fun _ => rfl
  | succ m ih =>
    intro h
    show (if shb (bs nd P) (nd + m) = true then sumF f (bs nd P) (nd + m) + f (nd + m) else sumF f (bs nd P) (nd + m)) = _
    rw [shb_bs (d := nd + m) hn (by omega), decide_eq_false (show ¬ nd + m < nd by omega), Bool.false_and, if_neg Bool.false_ne_true]
    exact ih (by omega)
theorem wait_comm {x : Int32} (h12 : dn W ≤ 12) : inS (dn W) (vd W 5) 0 &&& ownF (dn W) (vd W 0) x = waitR (dn W) W x := by
  unfold waitR inS ownF
  rw [bs_and h12, bs_and h12]
  exact bs_congr fun d _ => Bool.and_comm _ _
theorem load_same {a : Nat} {x : Int32} (h : Sd I a W) (hG : Rg W) : loadF (dn W) (I (a + 8)) (I (a + 3)) (I (a + 4)) x = loadR (dn W) W x := by
  have h12 := hG.1.2.1
  unfold loadF loadR
  rw [inS_same h hG, own_same h hG, wait_comm h12]
  unfold waitR inS ownF
  rw [bs_and h12]
  have e2 := sumF_hi (f := I (a + 4)) (P := fun d => decide (vd W 0 d = x) && decide (vd W 5 d = 0)) h12 (12 - dn W) (by omega)
  rw [show dn W + (12 - dn W) = 12 by omega] at e2
  rw [e2]
  exact sumF_cong fun e he => Sd.row (k := 1) h (by omega) (by decide)
theorem needs_same {l : Int32} {k : Nat} (hk : k ≤ 9) : needC l (nI k) = daysR l (nI k) := by
  unfold needC daysR
  by_cases c : l = 0
  · rw [if_pos c, if_pos c]
  rw [if_neg c, if_neg c]
  by_cases c2 : k = 0
  · subst c2
    rfl
  · rw [if_pos (show (0 : Int32) < nI k from nI_ltu (n := 0) (by omega) (by omega)), if_neg (show ¬ nI k = 0 from fun z => c2 (nI_inj (b := 0) (by omega) (by decide) z))]
/-- a share of the shame -/
def shW (W : Nat → Int32) (cd fa fn : Nat → Nat) (nl : Nat) (x : Int32) : Int32 := if sumF (shameR W cd fa fn nl) (inS (dn W) (vd W 5) 0) (dn W) = 0 then 0 else 100 * sumF (shameR W cd fa fn nl) (waitR (dn W) W x) (dn W) / sumF (shameR W cd fa fn nl) (inS (dn W) (vd W 5) 0) (dn W)
theorem Nb.add {x y : Int32} {a b : Nat} (h1 : Nb x a) (h2 : Nb y b) : Nb (x + y) (a + b) := by
  obtain ⟨i, hi, rfl⟩ := h1
  obtain ⟨j, hj, rfl⟩ := h2
  exact ⟨i + j, by omega, nI_addl i j⟩
theorem mx0_nb {x y : Int32} {a b : Nat} (ha : a < 2 ^ 30) (hb : b < 2 ^ 30) (h1 : Nb x a) (h2 : Nb y b) : Nb (mx0 (x - y)) a := by
  obtain ⟨i, hi, rfl⟩ := h1
  obtain ⟨j, hj, rfl⟩ := h2
  unfold mx0
  by_cases c : j ≤ i
  · rw [nI_sub c]
    by_cases c2 : i - j = 0
    · rw [c2]
      exact ⟨0, by omega, rfl⟩
    · rw [if_pos (show (0 : Int32) < nI (i - j) from nI_ltu (n := 0) (by omega) (by omega))]
      exact ⟨i - j, by omega, rfl⟩
  · rw [if_neg]
    · exact ⟨0, by omega, rfl⟩
    · intro z
      rw [Int32.lt_iff_toInt_lt, Int32.toInt_sub, nI_toInt (by omega), nI_toInt (by omega), Int.bmod_def] at z
      have e0 : (0 : Int32).toInt = 0 := rfl
      rw [e0] at z
      split at z <;> omega
theorem shame_nb (hG : Rg W) (hN : LwN W nl) (hd : d < dn W) : Nb (shameR W cd fa fn nl d) 819 := by
  have l1 : ∀ kind, Nb (sumR W cd fa fn nl d kind) 720 := fun kind => by
    obtain ⟨k, k1, k2⟩ := sumL_nb (F := factW W d) (ki := kiW W) (nu := nuW W) (cd := cd) (fa := fa) (fn := fn) (kind := kind) hN.1 hN.2
    have := hN.1
    exact ⟨k, by omega, k2⟩
  obtain ⟨-, -, g2, -⟩ := hG.2.2.2 d hd
  unfold shameR
  exact mx0_nb (by decide) (by decide) (Nb.add g2 (l1 1)) (l1 2)
theorem sumF_nb {f : Nat → Int32} {m : Nat} : ∀ {n : Nat}, (∀ e, e < n → Nb (f e) m) → Nb (sumF f s n) (m * n) := by
  intro n
  induction n with
  | zero => exact fun _ => ⟨0, by omega, rfl⟩
  | succ n ih =>
    intro h
    have i1 := ih fun e he => h e (by omega)
    show Nb (if shb s n = true then sumF f s n + f n else sumF f s n) (m * (n + 1))
    rw [Nat.mul_succ]
    by_cases c : shb s n = true
    · rw [if_pos c]
      exact Nb.add i1 (h n (by omega))
    · rw [if_neg c]
      obtain ⟨k, k1, k2⟩ := i1
      exact ⟨k, by omega, k2⟩
theorem set_nb (hG : Rg W) (hN : LwN W nl) : Nb (sumF (shameR W cd fa fn nl) s (dn W)) 9828 := by
  have h12 := hG.1.2.1
  obtain ⟨k, k1, k2⟩ := sumF_nb (s := s) (f := shameR W cd fa fn nl) (m := 819) (n := dn W) fun e he => shame_nb hG hN he
  have : 819 * dn W ≤ 819 * 12 := Nat.mul_le_mul_left _ h12
  exact ⟨k, by omega, k2⟩
/-! share -/
theorem fq_waitShame (h : Sy I) (lw : LwS I 246 (I 421) nl len cd fa fn) : Sp S m_X11_shameOfWaiting 18 0 0 [.ref 200, .ref 235] (hp I L w1 w2 t) (fun v h' => v = some (.int (sumF (shameR (I 421) cd fa fn nl) (inS (dn (I 421)) (vd (I 421) 5) 0) (dn (I 421)))) ∧ ∃ J, h' = hp J L w1 w2 t ∧ Fm sQ I J) nX := by
  refine Sp_of ok_X11_shameOfWaiting rfl rfl ?_
  show AW S m_X11_shameOfWaiting 18 _ _ 0 0 0 [some (.ref 200), some (.ref 235)] [] (hp I L w1 w2 t)
  refine a_l0 rfl rfl rfl ?_
  refine a_getq rfl gfX11_44_11 rfl (rfl) ?_
  refine a_l1 rfl rfl rfl ?_
  refine a_l1 rfl rfl rfl ?_
  refine a_s rfl rfl ?_
  refine a_eV1 rfl lX11_200 mo_X5_bitsIn (sp_X5_bitsIn (nd := dn (I 421)) (a := 235) (by decide) h.d3 h.n12) rfl rfl rfl ⟨5, _, rfl, rfl, rfl⟩ rfl ?_
  rw [inS_same h.nm.1 h.nm.2.2]
  refine a_gV rfl lX11_282 mo_X2_shameOfSet (fq_set h lw) rfl rfl rfl ⟨2, _, rfl, rfl, rfl⟩ rfl (fun v' h' hv => ?_)
  obtain ⟨rfl, J, rfl, f⟩ := hv
  exact a_iret rfl rfl ⟨rfl, J, rfl, f⟩
theorem fq_share (h : Sy I) (lw : LwS I 246 (I 421) nl len cd fa fn) (ln : LwN (I 421) nl) : Sp S m_X11_shareOf 20 0 0 [.ref 200, .int x1] (hp I L w1 w2 t) (fun v h' => v = some (.int (shW (I 421) cd fa fn nl x1)) ∧ ∃ J, h' = hp J L w1 w2 t ∧ Fm sQ I J) nX := by
  refine Sp_of ok_X11_shareOf rfl rfl ?_
  show AW S m_X11_shareOf 20 _ _ 0 0 0 [some (.ref 200), some (.int x1), none, none] [] (hp I L w1 w2 t)
  refine a_l0 rfl rfl rfl ?_
  refine a_l0 rfl rfl rfl ?_
  refine a_getq rfl gfX11_37_11 rfl (rfl) ?_
  refine a_gV rfl lX11_207 mo_X11_shameOfWaiting (fq_waitShame h lw) rfl rfl rfl ⟨11, _, rfl, rfl, rfl⟩ rfl (fun v' h' hv => ?_)
  obtain ⟨rfl, J, rfl, f⟩ := hv
  have hJ := Sy.q h f
  have e21 : J 421 = I 421 := funext fun k => f 421 k rfl
  have lJ := lw.q f
  refine a_s2 rfl rfl rfl rfl rfl rfl ?_
  refine a_l0 rfl rfl rfl ?_
  refine a_getq rfl gfX11_44_11 rfl (rfl) ?_
  refine a_l0 rfl rfl rfl ?_
  refine a_getq rfl gfX11_37_11 rfl (rfl) ?_
  refine a_l0 rfl rfl rfl ?_
  refine a_getq rfl gfX11_37_11 rfl (rfl) ?_
  refine a_s rfl rfl ?_
  refine a_eV1 rfl lX11_200 mo_X5_bitsIn (sp_X5_bitsIn (nd := dn (J 421)) (a := 235) (by decide) hJ.d3 hJ.n12) rfl rfl rfl ⟨5, _, rfl, rfl, rfl⟩ rfl ?_
  rw [inS_same hJ.nm.1 hJ.nm.2.2]
  refine a_l0 rfl rfl rfl ?_
  refine a_getq rfl gfX11_37_11 rfl (rfl) ?_
  refine a_l1 rfl rfl rfl ?_
  refine a_eV1 rfl lX11_124 mo_X5_ownedBy (sp_X5_ownedBy (nd := dn (J 421)) (a := 235) (by decide) hJ.d3 hJ.n12) rfl rfl rfl ⟨5, _, rfl, rfl, rfl⟩ rfl ?_
  rw [own_same hJ.nm.1 hJ.nm.2.2]
  refine a_s rfl rfl ?_
  rw [wait_comm hJ.n12]
  refine a_gV rfl lX11_282 mo_X2_shameOfSet (fq_set hJ lJ) rfl rfl rfl ⟨2, _, rfl, rfl, rfl⟩ rfl (fun v' h' hv => ?_)
  obtain ⟨rfl, K, rfl, g⟩ := hv
  rw [e21]
  have fK : Fm sQ I K := Fm.tr f g
  obtain ⟨T, hT, eT⟩ := set_nb (cd := cd) (fa := fa) (fn := fn) (s := inS (dn (I 421)) (vd (I 421) 5) 0) h.nm.2.2 ln
  refine a_s3 rfl rfl rfl rfl rfl rfl ?_
  refine a_l2 rfl rfl rfl ?_
  by_cases c0 : T = 0
  · have z0 : sumF (shameR (I 421) cd fa fn nl) (inS (dn (I 421)) (vd (I 421) 5) 0) (dn (I 421)) = 0 := by rw [eT, c0]; rfl
    refine a_if_le rfl (fun _ => ?_) (fun z => absurd (by rw [z0]; exact Int32.le_refl _) z)
    refine a_s rfl rfl ?_
    exact a_iret rfl rfl ⟨by unfold shW; rw [if_pos z0], K, rfl, fK⟩
  · have hpos : (0 : Int32) < sumF (shameR (I 421) cd fa fn nl) (inS (dn (I 421)) (vd (I 421) 5) 0) (dn (I 421)) := by rw [eT]; exact nI_ltu (n := 0) (by omega) (by omega)
    have z0 : ¬ sumF (shameR (I 421) cd fa fn nl) (inS (dn (I 421)) (vd (I 421) 5) 0) (dn (I 421)) = 0 := fun z => by rw [z] at hpos; exact Int32.lt_irrefl hpos
    refine a_if_le rfl (fun z => absurd hpos (Int32.not_lt.mpr z)) (fun _ => ?_)
    refine a_l3 rfl rfl rfl ?_
    refine a_s rfl rfl ?_
    refine a_s rfl rfl ?_
    refine a_l2 rfl rfl rfl ?_
    refine a_idiv rfl z0 ?_
    refine a_goto rfl ?_
    exact a_iret rfl rfl ⟨by unfold shW; rw [if_neg z0, Int32.mul_comm], K, rfl, fK⟩
theorem hq_share (hs : SO (dn (I 421)) (pn (I 421)) (I 421)) (hL : LawR (I 421) nl len cd fa fn) : Sp S m_X12_shareOf 22 0 0 [.ref 420, .int x1] (hp I L w1 w2 t) (fun v h' => v = some (.int (shW (I 421) cd fa fn nl x1)) ∧ ∃ f, h' = hp (upr I 428 f) L w1 w2 t) nX := by
  refine Sp_of ok_X12_shareOf rfl rfl ?_
  show AW S m_X12_shareOf 22 _ _ 0 0 0 [some (.ref 420), some (.int x1), none] [] (hp I L w1 w2 t)
  refine a_l0 rfl rfl rfl ?_
  refine a_l0 rfl rfl rfl ?_
  refine a_s rfl rfl ?_
  refine a_eV1 rfl lX12_324 mo_X12_ofState (sp_X12_ofState hs.n hs.du) rfl rfl rfl ⟨12, _, rfl, rfl, rfl⟩ rfl ?_
  refine a_gV rfl lX12_339 mo_X12_shameOf (sp_X12_shameOf hs.n hs.p hs.du hs.l hs.o hL) rfl rfl rfl ⟨12, _, rfl, rfl, rfl⟩ rfl (fun v' h' hv => ?_)
  obtain ⟨rfl, f, rfl⟩ := hv
  have e21 : upr I 428 f 421 = I 421 := upr_row (by decide)
  have hs2 : SO (dn (I 421)) (pn (I 421)) (upr I 428 f 421) := by rw [e21]; exact hs
  have hL2 : LawR (upr I 428 f 421) nl len cd fa fn := by rw [e21]; exact hL
  refine a_s2 rfl rfl rfl rfl rfl rfl ?_
  refine a_l2 rfl rfl rfl ?_
  refine a_if_ne rfl (fun z0 => ?_) (fun z0 => ?_)
  · refine a_s rfl rfl ?_
    refine a_l0 rfl rfl rfl ?_
    refine a_l0 rfl rfl rfl ?_
    refine a_l1 rfl rfl rfl ?_
    refine a_eV1 rfl lX12_327 mo_X12_waitingOf (sp_X12_waitingOf hs2.n hs2.du) rfl rfl rfl ⟨12, _, rfl, rfl, rfl⟩ rfl ?_
    refine a_gV rfl lX12_339 mo_X12_shameOf (sp_X12_shameOf hs2.n hs2.p hs2.du hs2.l hs2.o hL2) rfl rfl rfl ⟨12, _, rfl, rfl, rfl⟩ rfl (fun v' h' hv => ?_)
    obtain ⟨rfl, g, rfl⟩ := hv
    rw [e21]
    refine a_s rfl rfl ?_
    refine a_l2 rfl rfl rfl ?_
    refine a_idiv rfl z0 ?_
    exact a_iret rfl rfl ⟨by unfold shW; rw [if_neg z0], g, by rw [upr_upr]⟩
  · refine a_s rfl rfl ?_
    refine a_goto rfl ?_
    exact a_iret rfl rfl ⟨by unfold shW; rw [if_pos z0], f, rfl⟩
/-! person -/
def persW (W : Nat → Int32) (cd fa fn : Nat → Nat) (nl p : Nat) : Nat → Int32
  | 0 => vp W 0 p
  | 1 => vp W 1 p
  | 2 => ownF (dn W) (vd W 0) (nI p)
  | 3 => loadR (dn W) W (nI p)
  | 4 => daysR (loadR (dn W) W (nI p)) (vp W 1 p)
  | _ => shW W cd fa fn nl (nI p)
def vPs (np : Nat) (x y : Int32) : Int32 := if inB x 0 (nI np - 1) = true then (if inB y 0 5 = true then 0 else 2) else 1
theorem inB_toInt {x : Int32} {m : Nat} (hm : m < 2 ^ 31) : inB x 0 (nI m) = true ↔ (0 ≤ x.toInt ∧ x.toInt ≤ m) := by
  unfold inB
  rw [decide_eq_true_iff, Int32.le_iff_toInt_le, Int32.le_iff_toInt_le, nI_toInt hm]
  exact Iff.rfl
theorem nI_of0 {x : Int32} {i : Nat} (hi : i < 2 ^ 31) (h : x.toInt = 0 + i) : x = nI i := by
  rw [← Int32.toInt_inj, nI_toInt hi]
  omega
theorem fq_person (h : Sy I) (lw : LwS I 246 (I 421) nl len cd fa fn) (ln : LwN (I 421) nl) : Sp S m_X11_person 21 2 12 [.ref 200, .int x1, .int x2] (hp I L w1 w2 t) (Qc I (vPs (pn (I 421)) x1 x2) (persW (I 421) cd fa fn nl (ixN x1) (ixN x2)) L w1 w2 t) (Xc I (vPs (pn (I 421)) x1 x2) [(1, 0), (2, 4)] L w1 w2) := by
  have h6 := h.n6
  refine Sp_of ok_X11_person rfl rfl ?_
  show AW S m_X11_person 21 _ _ 2 12 0 [some (.ref 200), some (.int x1), some (.int x2)] [] (hp I L w1 w2 t)
  refine a_l0 rfl rfl rfl ?_
  refine a_l1 rfl rfl rfl ?_
  refine a_callV rfl lX11_110 mo_X11_needPerson (f_needPerson h.d0 (by omega)) rfl rfl rfl ⟨11, _, rfl, rfl, rfl⟩ rfl (fun v' h' hv => ?_) (fun E h' ex => ?_)
  rotate_left
  · obtain ⟨rfl, hz, rfl⟩ := ex
    exact Xc.mk (1, 0) List.mem_cons_self (if_neg (by rw [hz]; exact Bool.false_ne_true)) rfl
  obtain ⟨rfl, hz, rfl⟩ := hv
  obtain ⟨p, hp6, rfl⟩ := inB_ix (by omega) hz
  have hx := ixN_nI (i := p) (by omega)
  rw [hx]
  refine a_l2 rfl rfl rfl ?_
  refine a_tswA rfl (by decide) (by decide) (fun hz2 => ?_) (fun i o ho hz2 => ?_)
  · refine a_pc (pc' := 115) (by decide) ?_
    refine a_throw rfl rfl rfl rfl tX11_nsee rfl rfl rfl rfl rfl (Xc.mk (2, 4) (List.mem_cons_of_mem _ List.mem_cons_self) ((if_pos hz).trans (if_neg fun q => ?_)) rfl)
    have := (inB_toInt (m := 5) (by decide)).mp q
    omega
  · have hi6 : i < 6 := by
      have := (Array.getElem?_eq_some_iff.mp ho).1
      exact this
    obtain rfl := nI_of0 (by omega) hz2
    have hx2 := ixN_nI (i := i) (by omega)
    have c0 : vPs (pn (I 421)) (nI p) (nI i) = 0 := (if_pos hz).trans (if_pos ((inB_toInt (m := 5) (by decide)).mpr (by rw [nI_toInt (by omega)]; omega)))
    rw [hx2]
    have kb := h.nm.1.2.1 p (by omega)
    have fr := (h.nm.2.2.2.2.1 p hp6).2
    rcases i with _ | _ | _ | _ | _ | _ | i
    · cases ho
      refine a_pc (pc' := 44) (by decide) ?_
      refine a_l0 rfl rfl rfl ?_
      refine a_getq rfl gfX11_37_11 rfl (rfl) ?_
      refine a_getq rfl gfX11_113_5 rfl (rfl) ?_
      refine a_l1 rfl rfl rfl ?_
      refine a_eS1 rfl lX11_117 mo_X11_at (sp_X11_at rfl) rfl rfl rfl rfl ?_
      rw [atF_nI (show p < 6 by omega) (by decide)]
      exact a_iret rfl rfl (Qc.yes c0 kb.1)
    · cases ho
      refine a_pc (pc' := 56) (by decide) ?_
      refine a_l0 rfl rfl rfl ?_
      refine a_getq rfl gfX11_37_11 rfl (rfl) ?_
      refine a_getq rfl gfX11_121_5 rfl (rfl) ?_
      refine a_l1 rfl rfl rfl ?_
      refine a_eS1 rfl lX11_117 mo_X11_at (sp_X11_at rfl) rfl rfl rfl rfl ?_
      rw [atF_nI (show p < 6 by omega) (by decide)]
      exact a_iret rfl rfl (Qc.yes c0 kb.2)
    · cases ho
      refine a_pc (pc' := 68) (by decide) ?_
      refine a_l0 rfl rfl rfl ?_
      refine a_getq rfl gfX11_37_11 rfl (rfl) ?_
      refine a_l1 rfl rfl rfl ?_
      refine a_eV1 rfl lX11_124 mo_X5_ownedBy (sp_X5_ownedBy (nd := dn (I 421)) (a := 235) (by decide) h.d3 h.n12) rfl rfl rfl ⟨5, _, rfl, rfl, rfl⟩ rfl ?_
      rw [own_same h.nm.1 h.nm.2.2]
      exact a_iret rfl rfl (Qc.yes c0 rfl)
    · cases ho
      refine a_pc (pc' := 77) (by decide) ?_
      refine a_l0 rfl rfl rfl ?_
      refine a_getq rfl gfX11_37_11 rfl (rfl) ?_
      refine a_l1 rfl rfl rfl ?_
      refine a_eV1 rfl lX11_128 mo_X5_loadOf (sp_X5_loadOf (nd := dn (I 421)) (a := 235) (by decide) h.d3 h.n12) rfl rfl rfl ⟨5, _, rfl, rfl, rfl⟩ rfl ?_
      rw [load_same h.nm.1 h.nm.2.2]
      exact a_iret rfl rfl (Qc.yes c0 rfl)
    · cases ho
      refine a_pc (pc' := 86) (by decide) ?_
      refine a_l0 rfl rfl rfl ?_
      refine a_getq rfl gfX11_37_11 rfl (rfl) ?_
      refine a_l1 rfl rfl rfl ?_
      refine a_eV1 rfl lX11_128 mo_X5_loadOf (sp_X5_loadOf (nd := dn (I 421)) (a := 235) (by decide) h.d3 h.n12) rfl rfl rfl ⟨5, _, rfl, rfl, rfl⟩ rfl ?_
      rw [load_same h.nm.1 h.nm.2.2]
      refine a_l0 rfl rfl rfl ?_
      refine a_getq rfl gfX11_37_11 rfl (rfl) ?_
      refine a_getq rfl gfX11_121_5 rfl (rfl) ?_
      refine a_l1 rfl rfl rfl ?_
      refine a_eS1 rfl lX11_117 mo_X11_at (sp_X11_at rfl) rfl rfl rfl rfl ?_
      rw [atF_nI (show p < 6 by omega) (by decide), show I (235 + 2) p = vp (I 421) 1 p from kb.2]
      refine a_eS1 rfl lX11_131 mo_X11_needsOf sp_X11_needsOf rfl rfl rfl rfl ?_
      refine a_iret rfl rfl (Qc.yes c0 ?_)
      obtain ⟨g, g9, eg⟩ := fr
      show needC _ (vp (I 421) 1 p) = daysR _ (vp (I 421) 1 p)
      rw [show vp (I 421) 1 p = nI g from eg]
      exact needs_same g9
    · cases ho
      refine a_pc (pc' := 109) (by decide) ?_
      refine a_l0 rfl rfl rfl ?_
      refine a_l1 rfl rfl rfl ?_
      refine a_gV rfl lX11_135 mo_X11_shareOf (fq_share h lw ln) rfl rfl rfl ⟨11, _, rfl, rfl, rfl⟩ rfl (fun v' h' hv => ?_)
      obtain ⟨rfl, J, rfl, f⟩ := hv
      exact a_iret rfl rfl (Qc.yesJ c0 rfl f)
    · exact absurd hi6 (by omega)
theorem Qr.yesL {c val ov : Int32} {f : Nat → Int32} (hc : c = 0) (hv : ov = val) : Qr I c val L w1 w2 t (some (.int ov)) (hp (upr (up2 I 420 0 0) 428 f) L w1 w2 t) := ⟨ov, _, rfl, rfl, fun q k hq => by
  by_cases c1 : q = 428
  · subst c1
    cases hq
  · rw [upr_row c1]
    exact Fm.up (s := sV) Fm.rf rfl q k hq, by rw [upr_row (by decide), up2_at, hc], fun _ => hv⟩
theorem hq_person (h : Sy I) (lw : LwS I 246 (I 421) nl len cd fa fn) : Sp S m_X12_person 24 0 0 [.ref 420, .int x1, .int x2] (hp I L w1 w2 t) (Qr I (vPs (pn (I 421)) x1 x2) (persW (I 421) cd fa fn nl (ixN x1) (ixN x2)) L w1 w2 t) nX := by
  have h6 := h.n6
  have e21 : up2 I 420 0 0 421 = I 421 := up2_row (by decide)
  have hL : LawR (up2 I 420 0 0 421) nl len cd fa fn := by rw [e21]; exact lw.2.1
  have hS : SO (dn (up2 I 420 0 0 421)) (pn (up2 I 420 0 0 421)) (up2 I 420 0 0 421) := by rw [e21]; exact h.ri.so
  refine Sp_of ok_X12_person rfl rfl ?_
  show AW S m_X12_person 24 _ _ 0 0 0 [some (.ref 420), some (.int x1), some (.int x2)] [] (hp I L w1 w2 t)
  refine a_l0 rfl rfl rfl ?_
  refine a_s rfl rfl ?_
  refine a_puti rfl pfX12_3_12 rfl ?_
  refine a_l0 rfl rfl rfl ?_
  refine a_l0 rfl rfl rfl ?_
  refine a_l1 rfl rfl rfl ?_
  refine a_eV1 rfl lX12_342 mo_X12_noPerson (r_X12_noPerson h.s0) rfl rfl rfl ⟨12, _, rfl, rfl, rfl⟩ rfl ?_
  obtain ⟨z, hz⟩ : ∃ z, inB x1 0 (nI (pn (I 421)) - 1) = z := ⟨_, rfl⟩
  rw [hz]
  refine a_s rfl rfl ?_
  cases z with
  | false =>
    refine a_eV1 rfl lX12_243 mo_X12_throwsIf (h_throwsIf (z := true)) rfl rfl rfl ⟨12, _, rfl, rfl, rfl⟩ rfl ?_
    rw [if_pos rfl]
    refine a_if_ne rfl (fun _ => ?_) (fun c => absurd c (by decide))
    refine a_s rfl rfl ?_
    exact a_iret rfl rfl (Qr.no (if_neg (by rw [hz]; exact Bool.false_ne_true)) (by decide))
  | true =>
  refine a_eV1 rfl lX12_243 mo_X12_throwsIf (h_throwsIf (z := false)) rfl rfl rfl ⟨12, _, rfl, rfl, rfl⟩ rfl ?_
  rw [if_neg Bool.false_ne_true]
  refine a_if_ne rfl (fun c => absurd rfl c) (fun _ => ?_)
  refine a_l0 rfl rfl rfl ?_
  refine a_l2 rfl rfl rfl ?_
  refine a_s rfl rfl ?_
  refine a_s rfl rfl ?_
  refine a_eS1 rfl lX12_70 mo_X12_in sp_X12_in rfl rfl rfl rfl ?_
  obtain ⟨z2, hz2⟩ : ∃ z, inB x2 0 5 = z := ⟨_, rfl⟩
  rw [hz2]
  cases z2 with
  | false =>
    refine a_if_ne rfl (fun c => absurd rfl c) (fun _ => ?_)
    refine a_s rfl rfl ?_
    refine a_goto rfl ?_
    refine a_s rfl rfl ?_
    refine a_eV1 rfl lX12_243 mo_X12_throwsIf (h_throwsIf (z := true)) rfl rfl rfl ⟨12, _, rfl, rfl, rfl⟩ rfl ?_
    rw [if_pos rfl]
    refine a_if_eq rfl (fun c => absurd c (by decide)) (fun _ => ?_)
    refine a_s rfl rfl ?_
    exact a_iret rfl rfl (Qr.no ((if_pos hz).trans (if_neg (by rw [hz2]; exact Bool.false_ne_true))) (by decide))
  | true =>
  refine a_if_ne rfl (fun _ => ?_) (fun c => absurd c (by decide))
  refine a_s rfl rfl ?_
  refine a_s rfl rfl ?_
  refine a_eV1 rfl lX12_243 mo_X12_throwsIf (h_throwsIf (z := false)) rfl rfl rfl ⟨12, _, rfl, rfl, rfl⟩ rfl ?_
  rw [if_neg Bool.false_ne_true]
  refine a_if_eq rfl (fun _ => ?_) (fun c => absurd rfl c)
  have c0 : vPs (pn (I 421)) x1 x2 = 0 := (if_pos hz).trans (if_pos hz2)
  obtain ⟨p, hp6, rfl⟩ := inB_ix (by omega) hz
  have hx := ixN_nI (i := p) (by omega)
  obtain ⟨i, -, hi5, rfl⟩ := inB_nI (a := 0) (b := 5) (by decide) hz2
  have hx2 := ixN_nI (i := i) (by omega)
  rw [hx, hx2]
  refine a_l2 rfl rfl rfl ?_
  refine a_tswA rfl (by decide) (by decide) (fun hz3 => ?_) (fun j o ho hz3 => ?_)
  · refine a_pc (pc' := 96) (by decide) ?_
    rw [nI_toInt (by omega)] at hz3
    refine a_l0 rfl rfl rfl ?_
    refine a_l1 rfl rfl rfl ?_
    refine a_l2 rfl rfl rfl ?_
    refine a_eV1 rfl lX12_252 mo_X12_ofPerson (sp_X12_ofPerson (d := p) (k := i) (by omega) (by omega)) rfl rfl rfl ⟨12, _, rfl, rfl, rfl⟩ rfl ?_
    rw [e21]
    refine a_iret rfl rfl (Qr.yes c0 ?_)
    rcases i with _ | _ | i
    · rfl
    · rfl
    · exact absurd hz3 (by omega)
  · have hj4 : j < 4 := (Array.getElem?_eq_some_iff.mp ho).1
    rw [nI_toInt (by omega)] at hz3
    obtain rfl : i = j + 2 := by omega
    rcases j with _ | _ | _ | _ | j
    · cases ho
      refine a_pc (pc' := 72) (by decide) ?_
      refine a_l0 rfl rfl rfl ?_
      refine a_l1 rfl rfl rfl ?_
      refine a_eV1 rfl lX12_321 mo_X12_ownedBy (sp_X12_ownedBy h.n12 h.s0.du) rfl rfl rfl ⟨12, _, rfl, rfl, rfl⟩ rfl ?_
      rw [e21]
      exact a_iret rfl rfl (Qr.yes c0 rfl)
    · cases ho
      refine a_pc (pc' := 78) (by decide) ?_
      refine a_l0 rfl rfl rfl ?_
      refine a_l1 rfl rfl rfl ?_
      refine a_eV1 rfl lX12_333 mo_X12_loadOf (sp_X12_loadOf h.n12 h.s0.du) rfl rfl rfl ⟨12, _, rfl, rfl, rfl⟩ rfl ?_
      rw [e21]
      exact a_iret rfl rfl (Qr.yes c0 rfl)
    · cases ho
      refine a_pc (pc' := 84) (by decide) ?_
      refine a_l0 rfl rfl rfl ?_
      refine a_l1 rfl rfl rfl ?_
      refine a_eV1 rfl lX12_345 mo_X12_needsOf (sp_X12_needsOf h.n12 h.s0.du (p := p) (by omega)) rfl rfl rfl ⟨12, _, rfl, rfl, rfl⟩ rfl ?_
      rw [e21]
      exact a_iret rfl rfl (Qr.yes c0 rfl)
    · cases ho
      refine a_pc (pc' := 90) (by decide) ?_
      refine a_l0 rfl rfl rfl ?_
      refine a_l1 rfl rfl rfl ?_
      refine a_gV rfl lX12_348 mo_X12_shareOf (hq_share hS hL) rfl rfl rfl ⟨12, _, rfl, rfl, rfl⟩ rfl (fun v' h' hv => ?_)
      obtain ⟨rfl, f, rfl⟩ := hv
      rw [e21]
      exact a_iret rfl rfl (Qr.yesL c0 rfl)
    · exact absurd hj4 (by omega)
end T79zw
