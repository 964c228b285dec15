/-! ===== days, on both sides ===== -/
section T79zf
variable {S : aS} {I : Nat → Nat → Int32} {L : Nat → Nat → Int64} {w1 w2 t : Nat} {nl len nd np n fa r : Nat} {cd fa' fn : Nat → Nat} {W : Nat → Int32}
set_option maxRecDepth 100000
theorem psF_lg {calm : Bool} (h : DyOk nl W W) {k : Nat} (hk : k = 9 ∨ 95 ≤ k) : ∀ n, n ≤ pn W → (psF calm W n).1 k = W k := by
  intro n
  induction n with
  | zero => exact fun _ => rfl
  | succ n ih =>
    intro hn
    have ih := ih (by omega)
    have ok := psF_ok (calm := calm) h n (by omega)
    have e1 : psW calm (psF calm W n).1 k = (psF calm W n).1 k := by
      unfold psW
      by_cases c : calm = true
      · rw [if_pos c]
      · rw [if_neg c, ud_ne (by omega)]
    show (psS calm (psF calm W n) n).1 k = W k
    unfold psS
    by_cases c : calm = false ∧ rm100 (drawV (seedF ((psF calm W n).1 10))) < (psF calm W n).1 6
    · rw [if_pos c]
      exact e1.trans ih
    · rw [if_neg c]
      have okw := psW_ok (calm := calm) ok
      obtain ⟨-, -, -, -, g5⟩ := WdOk.run (p := nI n) (taken := (psF calm W n).2) (W := psW calm (psF calm W n).1) (s := (psW calm (psF calm W n).1, psW calm (psF calm W n).1 (11 + 2 * n + 1), 0)) ⟨okw.1, rfl, rfl, (okw.1.2.2.1 n (by rw [okw.2.1]; omega)).2, fun _ _ => rfl⟩ (dn (psW calm (psF calm W n).1)) (Nat.le_refl _)
      exact (g5 k (fun d hd => by omega)).trans (e1.trans ih)
theorem nwD_lg {s : Nat → Int32} (h : DyOk nl W s) {k : Nat} (hk : k = 9 ∨ 95 ≤ k) : nwD (gwL cd fa' fn nl) s k = s k := by
  unfold nwD
  by_cases c : 30 < s 4 + 1
  · rw [if_pos c]
    obtain ⟨hG, hp, hd, hL, h3, -⟩ := mth_ok h
    obtain ⟨-, -, -, -, g5⟩ := GwOk.run (cd := cd) (fa := fa') (fn := fn) (nl := nl) ⟨hG, rfl, rfl, hL, fun _ _ => rfl⟩ (dn s) (by rw [hd, h.2.2.1]; exact Nat.le_refl _)
    rw [g5 k (fun d hd => by omega), ud_ne (by omega), ud_ne (by omega), ud_ne (by omega)]
  · rw [if_neg c, ud_ne (by omega)]
theorem dayW_lg {calm : Bool} (h : DyOk nl W W) {k : Nat} (hk : k = 9 ∨ 95 ≤ k) : dayW calm (gwL cd fa' fn nl) W k = W k := (nwD_lg (psF_ok h _ (Nat.le_refl _)) hk).trans (psF_lg h hk _ (Nat.le_refl _))
/-- a day, and the parade on the second -/
def dyP (cd fa fn : Nat → Nat) (nl : Nat) (V : Nat → Int32) : Nat → Int32 := if V 4 = 2 then ltF cd fa fn nl V (dn V) else V
def dsW (calm : Bool) (cd fa fn : Nat → Nat) (nl : Nat) (W : Nat → Int32) : Nat → Nat → Int32
  | 0 => W
  | n + 1 => dyP cd fa fn nl (dayW calm (gwL cd fa fn nl) (dsW calm cd fa fn nl W n))
/-- ranges, and what days never change -/
def DsOk (nl : Nat) (W s : Nat → Int32) : Prop := Rg s ∧ pn s = pn W ∧ dn s = dn W ∧ LwN s nl ∧ s 3 = W 3 ∧ ∀ k, 335 ≤ k → s k = W k
theorem DsOk.dy {s : Nat → Int32} (h : DsOk nl W s) : DyOk nl s s := ⟨h.1, rfl, rfl, h.2.2.2.1, rfl, fun _ _ => rfl⟩
theorem dyP_ok {s V : Nat → Int32} (h : DsOk nl W s) (hV : DyOk nl s V) : DsOk nl W (dyP cd fa' fn nl V) := by
  obtain ⟨g1, g2, g3, g4, g5, g6⟩ := hV
  unfold dyP
  by_cases c : V 4 = 2
  · rw [if_pos c]
    obtain ⟨l1, l2, l3⟩ := ltF_rg (cd := cd) (fa := fa') (fn := fn) (nl := nl) g1 (n := dn V)
    exact ⟨l1, l2.trans (g2.trans h.2.1), l3.trans (g3.trans h.2.2.1), LwN.eq g4 fun k hk => ltF_lo (Or.inr hk) (by omega), (ltF_lo (Or.inl (by decide)) (by decide)).trans (g5.trans h.2.2.2.2.1), fun k hk => (ltF_lo (Or.inr hk) (by omega)).trans ((g6 k hk).trans (h.2.2.2.2.2 k hk))⟩
  · rw [if_neg c]
    exact ⟨g1, g2.trans h.2.1, g3.trans h.2.2.1, g4, g5.trans h.2.2.2.2.1, fun k hk => (g6 k hk).trans (h.2.2.2.2.2 k hk)⟩
theorem dsW_ok {calm : Bool} (h : DsOk nl W W) : ∀ n, DsOk nl W (dsW calm cd fa' fn nl W n) := by
  intro n
  induction n with
  | zero => exact h
  | succ n ih => exact dyP_ok ih (dayW_ok ih.dy)
theorem h_oneDay (h421 : I 421 = W) (hG : Rg W) (hL : LawR W nl len cd fa' fn) (hN : LwN W nl) {calm : Bool} : Sp S m_X12_oneDay 23 0 0 [.ref 420, .int (bI calm)] (hp I L w1 w2 t) (fun v h' => ∃ y, v = some (.int y) ∧ ∃ J, h' = hp J L w1 w2 t ∧ (∀ q, q ≠ 421 → q ≠ 428 → q ≠ 429 → J q = I q) ∧ J 421 = dyP cd fa' fn nl (dayW calm (gwL cd fa' fn nl) W)) nX := by
  refine Sp_of ok_X12_oneDay rfl rfl ?_
  show AW S m_X12_oneDay 23 _ _ 0 0 0 [some (.ref 420), some (.int (bI calm)), none, none] [] (hp I L w1 w2 t)
  refine h_oneDay140 h421 hG hL hN (fun J y u hf eJ => ?_)
  have ok : DyOk nl W (dayW calm (gwL cd fa' fn nl) W) := dayW_ok ⟨hG, rfl, rfl, hN, rfl, fun _ _ => rfl⟩
  generalize dayW calm (gwL cd fa' fn nl) W = V at eJ ok ⊢
  refine a_l0 rfl rfl rfl ?_
  refine a_getq rfl gfX12_13_12 rfl (rfl) ?_
  refine a_s rfl rfl ?_
  refine a_ialdv (v := V 4) rfl (n := 2033) rfl ⟨by decide, by decide⟩ (congrFun eJ 4) ?_
  refine a_s rfl rfl ?_
  refine a_ic_ne rfl (fun c => ?_) (fun c => ?_)
  · refine a_l2 rfl rfl rfl ?_
    exact a_iret rfl rfl ⟨y, rfl, J, rfl, hf, by unfold dyP; rw [if_neg c]; exact eJ⟩
  refine a_l0 rfl rfl rfl ?_
  refine a_gV rfl lX12_382 mo_X12_goesBy (h_goesBy (nl := nl) (len := len) (cd := cd) (fa := fa') (fn := fn) (by rw [eJ]; exact ok.1) (by rw [eJ]; exact LawR.eq hL ok.2.2.2.2.1 ok.2.2.2.2.2)) rfl rfl rfl ⟨12, _, rfl, rfl, rfl⟩ rfl (fun v' h' hv => ?_)
  obtain ⟨rfl, K, rfl, hfK, eK⟩ := hv
  refine a_l2 rfl rfl rfl ?_
  exact a_iret rfl rfl ⟨y, rfl, K, rfl, fun q h1 h2 h3 => (hfK q h1 h2).trans (hf q h1 h2 h3), by unfold dyP; rw [if_pos c, eK, eJ]⟩
theorem h_goesOn (h421 : I 421 = W) (hG : Rg W) (hL : LawR W nl len cd fa' fn) (hN : LwN W nl) {calm : Bool} {m : Nat} (hm : m ≤ 90) : Sp S m_X12_goesOn 24 0 0 [.ref 420, .int (nI m), .int (bI calm)] (hp I L w1 w2 t) (fun v h' => ∃ y, v = some (.int y) ∧ ∃ J, h' = hp J L w1 w2 t ∧ (∀ q, q ≠ 421 → q ≠ 428 → q ≠ 429 → J q = I q) ∧ J 421 = dsW calm cd fa' fn nl W m) nX := by
  have ok0 : DsOk nl W W := ⟨hG, rfl, rfl, hN, rfl, fun _ _ => rfl⟩
  refine Sp_of ok_X12_goesOn rfl rfl ?_
  show AW S m_X12_goesOn 24 _ _ 0 0 0 [some (.ref 420), some (.int (nI m)), some (.int (bI calm)), none, none] [] (hp I L w1 w2 t)
  refine a_s rfl rfl ?_
  refine a_s3 rfl rfl rfl rfl rfl rfl ?_
  refine a_s rfl rfl ?_
  refine a_s4 rfl rfl rfl rfl rfl rfl ?_
  refine a_inv (n := m) (fun i ls h => ∃ j y J, ls = [some (.ref 420), some (.int (nI m)), some (.int (bI calm)), some (.int y), some (.int (nI j))] ∧ h = hp J L w1 w2 t ∧ j ≤ m ∧ i = m - j ∧ J 421 = dsW calm cd fa' fn nl W j ∧ ∀ q, q ≠ 421 → q ≠ 428 → q ≠ 429 → J q = I q) ⟨0, 0, I, rfl, rfl, Nat.zero_le _, rfl, h421, fun _ _ _ _ => rfl⟩ ?_
  rintro i _ _ ⟨j, y, J, rfl, rfl, hj, hi, eJ, hf⟩ ih
  refine a_l4 rfl rfl rfl ?_
  refine a_l1 rfl rfl rfl ?_
  refine a_ic_ge rfl (fun c => ?_) (fun c => ?_)
  · have hge := nI_ge_of c (by omega) (by omega)
    obtain rfl : j = m := by omega
    refine a_l3 rfl rfl rfl ?_
    exact a_iret rfl rfl ⟨y, rfl, J, rfl, hf, eJ⟩
  have hjm := nI_lt_of c (by omega) (by omega)
  have okj := dsW_ok (calm := calm) (cd := cd) (fa' := fa') (fn := fn) ok0 j
  refine a_l3 rfl rfl rfl ?_
  refine a_l0 rfl rfl rfl ?_
  refine a_l2 rfl rfl rfl ?_
  refine a_gV rfl lX12_385 mo_X12_oneDay (h_oneDay (calm := calm) eJ okj.1 (LawR.eq hL okj.2.2.2.2.1 okj.2.2.2.2.2) okj.2.2.2.1) rfl rfl rfl ⟨12, _, rfl, rfl, rfl⟩ rfl (fun v' h' hv => ?_)
  obtain ⟨z, rfl, K, rfl, hfK, eK⟩ := hv
  refine a_s rfl rfl ?_
  refine a_s3 rfl rfl rfl rfl rfl rfl ?_
  refine a_iv4 (y := nI (j + 1)) rfl rfl rfl ((nI_succ j).symm) ?_
  refine a_goto rfl ?_
  exact ih (m - (j + 1)) _ _ (by omega) ⟨j + 1, _, K, rfl, rfl, by omega, rfl, eK, fun q h1 h2 h3 => (hfK q h1 h2 h3).trans (hf q h1 h2 h3)⟩
theorem h_days (hG : Rg (I 421)) (hL : LawR (I 421) nl len cd fa' fn) (hN : LwN (I 421) nl) (er : I 420 7 = nI r) (hr12 : r ≤ 12) {x : Int32} : Sp S m_X12_days 25 0 0 [.ref 420, .int x] (hp I L w1 w2 t) (fun v h' => ∃ y, v = some (.int y) ∧ ((inB x 1 90 = false ∧ h' = hp (up2 (up2 I 420 0 0) 420 0 1) L w1 w2 t) ∨ ∃ m, 1 ≤ m ∧ m ≤ 90 ∧ x = nI m ∧ ∃ J, h' = hp J L w1 w2 t ∧ (∀ q, q ≠ 421 → q ≠ 428 → q ≠ 429 → J q = remH (up2 I 420 0 0) r q) ∧ J 421 = dsW false cd fa' fn nl (I 421) m)) nX := by
  have e21 : up2 I 420 0 0 421 = I 421 := up2_row (by decide)
  have er0 : up2 I 420 0 0 420 7 = nI r := (up2_ne (Or.inr (by decide))).trans er
  refine Sp_of ok_X12_days rfl rfl ?_
  show AW S m_X12_days 25 _ _ 0 0 0 [some (.ref 420), some (.int x)] [] (hp I L w1 w2 t)
  refine a_l0 rfl rfl rfl ?_
  refine a_s rfl rfl ?_
  refine a_puti rfl pfX12_3_12 rfl ?_
  refine a_l0 rfl rfl rfl ?_
  refine a_l1 rfl rfl rfl ?_
  refine a_s rfl rfl ?_
  refine a_s rfl rfl ?_
  refine a_eS1 rfl lX12_70 mo_X12_in sp_X12_in rfl rfl rfl rfl ?_
  obtain ⟨z, hz⟩ : ∃ z, inB x 1 90 = z := ⟨_, rfl⟩
  rw [hz]
  cases z with
  | false =>
    refine a_if_ne rfl (fun c => absurd rfl c) (fun _ => ?_)
    refine a_s rfl rfl ?_
    refine a_goto rfl ?_
    refine a_s rfl rfl ?_
    refine a_eV1 rfl lX12_243 mo_X12_throwsIf (h_throwsIf (z := true)) rfl rfl rfl ⟨12, _, rfl, rfl, rfl⟩ rfl ?_
    rw [if_pos rfl]
    refine a_if_eq rfl (fun c => absurd c (by decide)) (fun _ => ?_)
    refine a_s rfl rfl ?_
    exact a_iret rfl rfl ⟨0, rfl, Or.inl ⟨rfl, rfl⟩⟩
  | true =>
    refine a_if_ne rfl (fun _ => ?_) (fun c => absurd c (by decide))
    refine a_s rfl rfl ?_
    refine a_s rfl rfl ?_
    refine a_eV1 rfl lX12_243 mo_X12_throwsIf (h_throwsIf (z := false)) rfl rfl rfl ⟨12, _, rfl, rfl, rfl⟩ rfl ?_
    rw [if_neg Bool.false_ne_true]
    refine a_if_eq rfl (fun _ => ?_) (fun c => absurd rfl c)
    obtain ⟨z1, z2⟩ := of_decide_eq_true hz
    obtain ⟨m, m1, m2, em⟩ : ∃ m, 1 ≤ m ∧ m ≤ 90 ∧ x = nI m := by
      rw [Int32.le_iff_toInt_le] at z1 z2
      have z1 : (1 : Int) ≤ x.toInt := z1
      have z2 : x.toInt ≤ 90 := z2
      refine ⟨x.toInt.toNat, by omega, by omega, ?_⟩
      rw [← Int32.toInt_inj, nI_toInt (by omega)]
      omega
    subst em
    refine a_l0 rfl rfl rfl ?_
    refine a_eV0 rfl lX12_357 mo_X12_remembers (h_remembers er0 hr12) rfl rfl rfl ⟨12, _, rfl, rfl, rfl⟩ rfl ?_
    have e22 : remH (up2 I 420 0 0) r 421 = I 421 := remH_421.trans e21
    refine a_l0 rfl rfl rfl ?_
    refine a_l1 rfl rfl rfl ?_
    refine a_s rfl rfl ?_
    refine a_gV rfl lX12_388 mo_X12_goesOn (h_goesOn (calm := false) (m := m) e22 hG hL hN m2) rfl rfl rfl ⟨12, _, rfl, rfl, rfl⟩ rfl (fun v' h' hv => ?_)
    obtain ⟨y, rfl, J, rfl, hf, eJ⟩ := hv
    exact a_iret rfl rfl ⟨y, rfl, Or.inr ⟨m, m1, m2, rfl, J, rfl, hf, eJ⟩⟩
end T79zf
