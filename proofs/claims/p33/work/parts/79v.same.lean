section
section T58c
set_option maxRecDepth 100000
/-- the steps of a count of bits, on numbers -/
def bcA (x : Int32) : Int32 := x - (((x.toUInt32 >>> ((1 : Int32).toUInt32 &&& Int32.toUInt32 31)).toInt32) &&& 1431655765)
def bcB (a : Int32) : Int32 := (a &&& 858993459) + ((a.toUInt32 >>> ((2 : Int32).toUInt32 &&& Int32.toUInt32 31)).toInt32 &&& 858993459)
def bcC (b : Int32) : Int32 := (b + (b.toUInt32 >>> ((4 : Int32).toUInt32 &&& Int32.toUInt32 31)).toInt32) &&& 252645135
def bcD (c : Int32) : Int32 := c + (c.toUInt32 >>> ((8 : Int32).toUInt32 &&& Int32.toUInt32 31)).toInt32
def bcE (e : Int32) : Int32 := e + (e.toUInt32 >>> ((16 : Int32).toUInt32 &&& Int32.toUInt32 31)).toInt32
def bnA (m : Nat) : Nat := m - (m >>> 1 &&& 1431655765)
def bnB (a : Nat) : Nat := (a &&& 858993459) + (a >>> 2 &&& 858993459)
def bnC (b : Nat) : Nat := (b + b >>> 4) &&& 252645135
def bnD (c : Nat) : Nat := c + c >>> 8
def bnE (e : Nat) : Nat := e + e >>> 16
variable {a k m : Nat}
theorem nI_bt {i : Nat} (hi : i < 32) : bt (nI m) i = m.testBit i := by
  show (BitVec.ofNat 32 m).getLsbD i = _
  rw [BitVec.getLsbD_ofNat, decide_eq_true hi, Bool.true_and]
theorem nI_and {b : Nat} : nI a &&& nI b = nI (a &&& b) := b_ext fun i hi => by rw [b_and, nI_bt hi, nI_bt hi, nI_bt hi, Nat.testBit_and]
theorem nI_shr (k : Nat) (hk : k < 32) (hm : m < 2 ^ 31) : ((nI m).toUInt32 >>> ((nI k).toUInt32 &&& Int32.toUInt32 31)).toInt32 = nI (m >>> k) := b_ext fun i hi => by
  rw [b_ushr k hk, nI_bt hi, Nat.testBit_shiftRight]
  by_cases c : k + i < 32
  · exact nI_bt c
  · rw [b_big (by omega), Nat.testBit_lt_two_pow (Nat.lt_of_lt_of_le hm (Nat.pow_le_pow_right (by decide) (by omega)))]
theorem bcA_n (hm : m < 2 ^ 20) : bcA (nI m) = nI (bnA m) ∧ bnA m ≤ m := by
  refine ⟨?_, Nat.sub_le _ _⟩
  unfold bcA bnA
  rw [show ((nI m).toUInt32 >>> ((1 : Int32).toUInt32 &&& Int32.toUInt32 31)).toInt32 = nI (m >>> 1) from nI_shr 1 (by decide) (by omega), show (1431655765 : Int32) = nI 1431655765 from rfl, nI_and, nI_sub]
  exact Nat.le_trans Nat.and_le_left (Nat.shiftRight_le m 1)
theorem bcB_n (hm : m < 2 ^ 20) : bcB (nI m) = nI (bnB m) ∧ bnB m ≤ m + m := by
  refine ⟨?_, Nat.add_le_add Nat.and_le_left (Nat.le_trans Nat.and_le_left (Nat.shiftRight_le m 2))⟩
  unfold bcB bnB
  rw [show ((nI m).toUInt32 >>> ((2 : Int32).toUInt32 &&& Int32.toUInt32 31)).toInt32 = nI (m >>> 2) from nI_shr 2 (by decide) (by omega), show (858993459 : Int32) = nI 858993459 from rfl, nI_and, nI_and, nI_addl]
theorem bcC_n (hm : m < 2 ^ 20) : bcC (nI m) = nI (bnC m) ∧ bnC m ≤ m + m := by
  refine ⟨?_, Nat.le_trans Nat.and_le_left (Nat.add_le_add_left (Nat.shiftRight_le m 4) m)⟩
  unfold bcC bnC
  rw [show ((nI m).toUInt32 >>> ((4 : Int32).toUInt32 &&& Int32.toUInt32 31)).toInt32 = nI (m >>> 4) from nI_shr 4 (by decide) (by omega), nI_addl, show (252645135 : Int32) = nI 252645135 from rfl, nI_and]
theorem bcD_n (hm : m < 2 ^ 20) : bcD (nI m) = nI (bnD m) ∧ bnD m ≤ m + m := by
  refine ⟨?_, Nat.add_le_add_left (Nat.shiftRight_le m 8) m⟩
  unfold bcD bnD
  rw [show ((nI m).toUInt32 >>> ((8 : Int32).toUInt32 &&& Int32.toUInt32 31)).toInt32 = nI (m >>> 8) from nI_shr 8 (by decide) (by omega), nI_addl]
theorem bcE_n (hm : m < 2 ^ 20) : bcE (nI m) = nI (bnE m) := by
  unfold bcE bnE
  rw [show ((nI m).toUInt32 >>> ((16 : Int32).toUInt32 &&& Int32.toUInt32 31)).toInt32 = nI (m >>> 16) from nI_shr 16 (by decide) (by omega), nI_addl]
def bcN (m : Nat) : Nat := bnE (bnD (bnC (bnB (bnA m)))) &&& 63
theorem bc_nI (hm : m < 4096) : bcF (nI m) = nI (bcN m) := by
  show bcE (bcD (bcC (bcB (bcA (nI m))))) &&& 63 = _
  obtain ⟨e1, l1⟩ := bcA_n (m := m) (by omega)
  obtain ⟨e2, l2⟩ := bcB_n (m := bnA m) (by omega)
  obtain ⟨e3, l3⟩ := bcC_n (m := bnB (bnA m)) (by omega)
  obtain ⟨e4, l4⟩ := bcD_n (m := bnC (bnB (bnA m))) (by omega)
  rw [e1, e2, e3, e4, bcE_n (by omega), show (63 : Int32) = nI 63 from rfl, nI_and]
  rfl
theorem bcN_add : ∀ n, n < 12 → ∀ m, m < 2 ^ n → bcN (m + 2 ^ n) = bcN m + 1 := by decide +kernel
theorem bc_add : ∀ n, n < 12 → ∀ m, m < 2 ^ n → bcF (nI (m + 2 ^ n)) = bcF (nI m) + 1 := by
  intro n hn m hm
  have h : 2 ^ n ≤ 2 ^ 11 := Nat.pow_le_pow_right (by decide) (by omega)
  rw [bc_nI (by omega), bc_nI (by omega), bcN_add n hn m hm, nI_succ]
end T58c
/-! ===== sets by their bits; the class's queries on a street are those on its row ===== -/
section P79v
variable {nd np d : Nat} {W : Nat → Int32} {I : Nat → Nat → Int32} {a : Nat}
set_option maxRecDepth 100000
theorem bt_bitF {e i : Nat} (he : e < 31) (hi : i < 32) : bt (bitF (nI e)) i = decide (i = e) := by
  unfold bitF
  rw [if_neg (nI_pos (by omega)), if_neg (fun z => by have := nI_ge_of (a := e) (b := 31) z (by omega) (by decide); omega)]
  exact bt_sh (by omega) hi
theorem bt_bs {P : Nat → Bool} : ∀ {n : Nat}, n ≤ 12 → ∀ i, i < 32 → bt (bs n P) i = (decide (i < n) && P i) := by
  intro n
  induction n with
  | zero =>
    intro _ i _
    exact b_0 i
  | succ n ih =>
    intro hn i hi
    have ih := ih (by omega) i hi
    show bt (if P n then bs n P ||| bitF (nI n) else bs n P) i = _
    by_cases c : P n = true
    · rw [if_pos c, b_or, ih, bt_bitF (by omega) hi]
      by_cases ci : i = n
      · subst ci
        simp [c]
      · simp only [ci, decide_false, Bool.or_false]
        congr 1
        exact decide_eq_decide.mpr ⟨fun z => by omega, fun z => by omega⟩
    · rw [if_neg c, ih]
      by_cases ci : i = n
      · subst ci
        simp [c]
      · congr 1
        exact decide_eq_decide.mpr ⟨fun z => by omega, fun z => by omega⟩
theorem hasF_bt {s : Int32} {e : Nat} (he : e < 31) : hasF s (nI e) = bt s e := by
  unfold hasF
  have key : (s &&& bitF (nI e)) = 0 ↔ bt s e = false := by
    constructor
    · intro z
      have := congrArg (fun x => bt x e) z
      simp only [b_and, b_0, bt_bitF he (show e < 32 by omega), decide_true, Bool.and_true] at this
      exact this
    · intro z
      refine b_ext fun i hi => ?_
      rw [b_and, b_0, bt_bitF he hi]
      by_cases c : i = e
      · subst c
        simp [z]
      · simp [c]
  cases hb : bt s e with
  | false => exact decide_eq_false (fun z => z (key.mpr hb))
  | true => exact decide_eq_true (fun z => by rw [key.mp z] at hb; cases hb)
theorem shb_is {s : Int32} {e : Nat} (he : e < 31) : shb s e = bt s e := by
  unfold shb
  have key : ((s >>> (nI e &&& 31)) &&& 1) = 0 ↔ bt s e = false := by
    constructor
    · intro z
      have := congrArg (fun x => bt x 0) z
      simp only [b_and, b_0, bt_1 0 (by decide), b_sshr e (show e < 32 by omega) s (show 0 < 32 by decide), Nat.add_zero, decide_true, Bool.and_true] at this
      rw [if_pos (by omega)] at this
      exact this
    · intro z
      refine b_ext fun i hi => ?_
      rw [b_and, b_0, bt_1 i hi, b_sshr e (by omega) s hi]
      by_cases c : i = 0
      · subst c
        rw [Nat.add_zero, if_pos (by omega), z]
        rfl
      · simp [c]
  cases hb : bt s e with
  | false => exact decide_eq_false (fun z => z (key.mpr hb))
  | true => exact decide_eq_true (fun z => by rw [key.mp z] at hb; cases hb)
theorem hasF_or {x y : Int32} {e : Nat} (he : e < 31) : hasF (x ||| y) (nI e) = (hasF x (nI e) || hasF y (nI e)) := by rw [hasF_bt he, hasF_bt he, hasF_bt he, b_or]
theorem hasF_bit {e i : Nat} (he : e < 31) (hi : i < 31) : hasF (bitF (nI e)) (nI i) = decide (i = e) := by rw [hasF_bt hi, bt_bitF he (by omega)]
theorem hasF_0 {i : Nat} (hi : i < 31) : hasF 0 (nI i) = false := by rw [hasF_bt hi, b_0]
theorem hasF_bs {P : Nat → Bool} (hn : nd ≤ 12) (hd : d < nd) : hasF (bs nd P) (nI d) = P d := by
  rw [hasF_bt (by omega), bt_bs hn d (by omega), decide_eq_true hd, Bool.true_and]
theorem shb_bs {P : Nat → Bool} (hn : nd ≤ 12) (hd : d < 31) : shb (bs nd P) d = (decide (d < nd) && P d) := by
  rw [shb_is hd, bt_bs hn d (by omega)]
theorem bs_and {P Q : Nat → Bool} (hn : nd ≤ 12) : bs nd P &&& bs nd Q = bs nd (fun d => P d && Q d) := by
  refine b_ext fun i hi => ?_
  rw [b_and, bt_bs hn i hi, bt_bs hn i hi, bt_bs hn i hi]
  cases decide (i < nd) <;> simp
theorem bs_andn {P Q : Nat → Bool} (hn : nd ≤ 12) : bs nd P &&& (bs nd Q ^^^ (-1)) = bs nd (fun d => P d && !Q d) := by
  refine b_ext fun i hi => ?_
  rw [b_and, b_xor, b_m1 i hi, bt_bs hn i hi, bt_bs hn i hi, bt_bs hn i hi]
  cases decide (i < nd) <;> simp
theorem bc_bs {P : Nat → Bool} : ∀ {n : Nat}, n ≤ 12 → bcF (bs n P) = nI (cntF n P) := by
  intro n
  induction n with
  | zero =>
    intro _
    show bcF 0 = nI 0
    decide
  | succ n ih =>
    intro hn
    have ih := ih (by omega)
    obtain ⟨m, hm, em⟩ := bs_nI (n := n) (P := P) (by omega)
    show bcF (if P n then bs n P ||| bitF (nI n) else bs n P) = nI (if P n then cntF n P + 1 else cntF n P)
    by_cases c : P n = true
    · rw [if_pos c, if_pos c, em, or_bit n (by omega) m hm, bc_add n (by omega) m hm, ← em, ih, ← nI_succ]
    · rw [if_neg c, if_neg c, ih]
theorem Sd.row {k : Nat} (h : Sd I a W) (hd : d < 12) (hk : k < 6) : I (a + (3 + k)) d = vd W k d := by
  rw [← Nat.add_assoc]
  exact h.2.2 d hd k hk
theorem lf_same (h : Sd I a W) (hG : Rg W) (hd : d < dn W) : lfF (I (a + 7)) (I (a + 8)) (nI d) = lwF W d := by
  have h12 := hG.1.2.1
  have e4 : I (a + 7) d = vd W 4 d := Sd.row (k := 4) h (by omega) (by decide)
  unfold lfF lwF
  rw [atF_nI (show d < 12 by omega) (by decide), e4]
  rcases (hG.2.2.2 d hd).2.2.2.2.1 with z | ⟨j, hj, z⟩
  · have z : vd W 4 d = -1 := z
    rw [z]
    simp
  · have z : vd W 4 d = nI j := z
    rw [z, atF_nI (show j < 12 by omega) (by decide), nI_clamp (by omega), show I (a + 8) j = vd W 5 j from Sd.row (k := 5) h (by omega) (by decide)]
theorem wait_same (h : Sd I a W) (hG : Rg W) (hd : d < dn W) : waitF (dn W) (I (a + 8)) (nI d) = decide (vd W 5 d = 0) := by
  have h12 := hG.1.2.1
  rw [waitF_nI hd h12, show I (a + 8) d = vd W 5 d from Sd.row (k := 5) h (by omega) (by decide)]
theorem rd_same (h : Sd I a W) (hG : Rg W) (hd : d < dn W) : rdF (dn W) (I (a + 8)) (I (a + 7)) (nI d) = readyR W d := by
  unfold rdF readyR
  rw [wait_same h hG hd, lf_same h hG hd]
theorem inS_same (h : Sd I a W) (hG : Rg W) {x : Int32} : inS (dn W) (I (a + 8)) x = inS (dn W) (vd W 5) x := by
  have h12 := hG.1.2.1
  exact bs_congr fun e he => by rw [show I (a + 8) e = vd W 5 e from Sd.row (k := 5) h (by omega) (by decide)]
theorem old_same (h : Sd I a W) (hG : Rg W) {x : Int32} : oldF (dn W) (I (a + 8)) (I (a + 5)) x = oldF (dn W) (vd W 5) (vd W 2) x := by
  have h12 := hG.1.2.1
  exact bs_congr fun e he => by rw [show I (a + 8) e = vd W 5 e from Sd.row (k := 5) h (by omega) (by decide), show I (a + 5) e = vd W 2 e from Sd.row (k := 2) h (by omega) (by decide)]
theorem own_same (h : Sd I a W) (hG : Rg W) {x : Int32} : ownF (dn W) (I (a + 3)) x = ownF (dn W) (vd W 0) x := by
  have h12 := hG.1.2.1
  exact bs_congr fun e he => by rw [show I (a + 3) e = vd W 0 e from Sd.row (k := 0) h (by omega) (by decide)]
theorem place_same (h : Sd I a W) (hG : Rg W) (hd : d < dn W) : placeF (dn W) (I (a + 8)) (I (a + 5)) (nI d) = placeF (dn W) (vd W 5) (vd W 2) (nI d) := by
  have h12 := hG.1.2.1
  have e2 : ∀ e, e < dn W → I (a + 5) e = vd W 2 e := fun e he => Sd.row (k := 2) h (by omega) (by decide)
  have e5 : ∀ e, e < dn W → I (a + 8) e = vd W 5 e := fun e he => Sd.row (k := 5) h (by omega) (by decide)
  unfold placeF placeC
  rw [wait_same h hG hd, waitF_nI hd h12, atF_nI (show d < 12 by omega) (by decide), atF_nI (show d < 12 by omega) (by decide), e2 d hd]
  rw [cntF_congr (P' := fun e => decide (vd W 5 e = 0 ∧ (vd W 2 e < vd W 2 d ∨ (vd W 2 e = vd W 2 d ∧ nI e < nI d)))) fun e he => by rw [e5 e he, e2 e he]]
theorem pass_same (h : Sd I a W) (hG : Rg W) (hd : d < dn W) : passF (dn W) (I (a + 8)) (I (a + 5)) (I a 13) (nI d) = passR (dn W) W d := by
  have h12 := hG.1.2.1
  unfold passF passR
  rw [wait_same h hG hd, inS_same h hG, old_same h hG, show I a 13 = W 7 from Sd.fd h (by decide), atF_nI (show d < 12 by omega) (by decide), show I (a + 5) d = vd W 2 d from Sd.row (k := 2) h (by omega) (by decide)]
  have e1 : bcF (inS (dn W) (vd W 5) 0 &&& (oldF (dn W) (vd W 5) (vd W 2) (vd W 2 d) ^^^ (-1))) = nI (cntF (dn W) (fun e => decide (vd W 5 e = 0 ∧ vd W 2 e ≤ vd W 2 d))) := by
    unfold inS oldF
    rw [bs_andn h12, bc_bs h12]
    congr 1
    refine cntF_congr fun e _ => ?_
    by_cases c5 : vd W 5 e = 0
    · by_cases c2 : vd W 2 e ≤ vd W 2 d
      · simp [c5, c2, Int32.not_lt.mpr c2]
      · simp [c5, c2, Int32.not_le.mp c2]
    · simp [c5]
  rw [e1]
  by_cases c : vd W 5 d = 0
  · rw [decide_eq_true c, if_pos rfl, if_pos c]
  · rw [decide_eq_false c, if_neg Bool.false_ne_true, if_neg c]
theorem can_same (h : Sd I a W) (hG : Rg W) : canF (dn W) (I (a + 8)) (I (a + 7)) (I (a + 4)) (I (a + 5)) (I a 13) = bs (dn W) (canR (dn W) W) := by
  have h12 := hG.1.2.1
  refine bs_congr fun e he => ?_
  unfold canR
  rw [rd_same h hG he, pass_same h hG he, show I (a + 4) e = vd W 1 e from Sd.row (k := 1) h (by omega) (by decide)]
theorem fact_5 (h : Sd I a W) (hG : Rg W) (hd : d < dn W) : atF (I (a + 1)) 6 (vd W 0 d) = W (11 + 2 * (vd W 0 d).toNatClampNeg) := by
  have h6 := hG.1.1
  obtain ⟨⟨j, hj, ej⟩, -⟩ := hG.2.2.2 d hd
  have ej : vd W 0 d = nI j := ej
  rw [ej, atF_nI (show j < 6 by omega) (by decide), nI_clamp (by omega)]
  exact (h.2.1 j (by omega)).1
theorem fact_same (h : Sd I a W) (hG : Rg W) (hd : d < dn W) : factC I a d = factW W d := by
  have h12 := hG.1.2.1
  have e0 : I (a + 3) d = vd W 0 d := Sd.row (k := 0) h (by omega) (by decide)
  have e1 : I (a + 4) d = vd W 1 d := Sd.row (k := 1) h (by omega) (by decide)
  have e2 : I (a + 5) d = vd W 2 d := Sd.row (k := 2) h (by omega) (by decide)
  have e3 : I (a + 6) d = vd W 3 d := Sd.row (k := 3) h (by omega) (by decide)
  have e4 : I a 10 = W 4 := Sd.fd h (by decide)
  have e5 := fact_5 h hG hd
  have e7 := lf_same h hG hd
  funext k
  rcases k with _ | _ | _ | _ | _ | _ | _ | _ | _ | n
  all_goals simp only [factC, factW, e0, e1, e2, e3, e4, e5, e7]
/-- both laws are alike -/
def LwS (I : Nat → Nat → Int32) (b : Nat) (W : Nat → Int32) (nl len : Nat) (cd fa fn : Nat → Nat) : Prop := LawC I b nl len cd fa fn ∧ LawR W nl len cd fa fn ∧ (∀ n, n < nl → I (b + 1) n = kiW W n ∧ I (b + 2) n = nuW W n) ∧ (I b 0 = -1 ↔ W 3 = 0)
theorem sumL_congr {F ki ki' nu nu' : Nat → Int32} {cd fa fn : Nat → Nat} {kind : Int32} : ∀ {n : Nat}, (∀ i, i < n → ki i = ki' i ∧ nu i = nu' i) → sumL F ki nu cd fa fn kind n = sumL F ki' nu' cd fa fn kind n := by
  intro n
  induction n with
  | zero => exact fun _ => rfl
  | succ n ih =>
    intro h
    have e := h n (Nat.lt_succ_self n)
    unfold sumL
    rw [ih fun i hi => h i (Nat.lt_succ_of_lt hi), e.1, e.2]
theorem sum_same {b nl len : Nat} {cd fa fn : Nat → Nat} {kind : Int32} (h : Sd I a W) (hG : Rg W) (hL : LwS I b W nl len cd fa fn) (hd : d < dn W) : sumC I b (factC I a d) cd fa fn nl kind = sumR W cd fa fn nl d kind := by
  unfold sumC sumR
  rw [fact_same h hG hd]
  exact sumL_congr hL.2.2.1
theorem grow_same {b nl len : Nat} {cd fa fn : Nat → Nat} (h : Sd I a W) (hG : Rg W) (hL : LwS I b W nl len cd fa fn) (hd : d < dn W) : growC I a b cd fa fn nl d = sumR W cd fa fn nl d 0 := sum_same h hG hL hd
end P79v
end
section
/-! ===== a day's work, on the row; the class does it so ===== -/
section T79w
variable {S : aS} {I : Nat → Nat → Int32} {L : Nat → Nat → Int64} {w1 w2 t : Nat} {n fa a d p : Nat} {W : Nat → Int32}
set_option maxRecDepth 100000
abbrev WdT : Type := (Nat → Int32) × Int32 × Int32
/-- a duty's turn: the row, hours that are left, tools had -/
def wdS (p taken : Int32) (s : WdT) (d : Nat) : WdT :=
  if 0 < s.2.1 ∧ s.1 (23 + 6 * d + 0) = p ∧ readyR s.1 d = true ∧ hasF taken (s.1 (23 + 6 * d + 3)) = false then
    (if s.1 (23 + 6 * d + 1) - mn s.2.1 (s.1 (23 + 6 * d + 1)) = 0 then ud (ud (ud s.1 (23 + 6 * d + 1) (s.1 (23 + 6 * d + 1) - mn s.2.1 (s.1 (23 + 6 * d + 1)))) (23 + 6 * d + 1) 0) (23 + 6 * d + 5) 1
     else ud s.1 (23 + 6 * d + 1) (s.1 (23 + 6 * d + 1) - mn s.2.1 (s.1 (23 + 6 * d + 1))), s.2.1 - mn s.2.1 (s.1 (23 + 6 * d + 1)), s.2.2 ||| bitF (s.1 (23 + 6 * d + 3)))
  else s
def wdF (p taken : Int32) (s : WdT) : Nat → WdT
  | 0 => s
  | n + 1 => wdS p taken (wdF p taken s n) n
theorem wdF_stop {p taken : Int32} {s : WdT} {j : Nat} (h : ¬ 0 < (wdF p taken s j).2.1) : ∀ i, wdF p taken s (j + i) = wdF p taken s j := by
  intro i
  induction i with
  | zero => rfl
  | succ i ih =>
    show wdS p taken (wdF p taken s (j + i)) (j + i) = _
    rw [ih]
    unfold wdS
    rw [if_neg (fun z => h z.1)]
/-- what holds on the way: ranges, how many, hours 0 to 9; but for left and state all as it was -/
def WdOk (W : Nat → Int32) (s : WdT) : Prop := Rg s.1 ∧ pn s.1 = pn W ∧ dn s.1 = dn W ∧ (∃ h, h ≤ 9 ∧ s.2.1 = nI h) ∧ ∀ k, (∀ d, d < 12 → k ≠ 23 + 6 * d + 1 ∧ k ≠ 23 + 6 * d + 5) → s.1 k = W k
theorem readyR_0 (h : readyR W d = true) : W (23 + 6 * d + 5) = 0 := by
  unfold readyR at h
  rw [Bool.and_eq_true] at h
  exact of_decide_eq_true h.1
theorem Rg.upd {W' : Nat → Int32} (h : Rg W) (hd : d < dn W) (f : ∀ k, k ≠ 23 + 6 * d + 1 → k ≠ 23 + 6 * d + 5 → W' k = W k) {l s : Nat} (hl : l ≤ 99) (e1 : W' (23 + 6 * d + 1) = nI l) (hs : s ≤ 2) (e5 : W' (23 + 6 * d + 5) = nI s) (e : s = 1 ↔ l = 0) : Rg W' ∧ pn W' = pn W ∧ dn W' = dn W := by
  obtain ⟨⟨h1, h2, h3, h4⟩, hf, hp, hdd⟩ := h
  have r : Rg W' := by
    refine Rg.of h1 h2 ((f 0 (by omega) (by omega)).trans h3) ((f 1 (by omega) (by omega)).trans h4) (hf.eq fun k z1 z2 => f k (by omega) (by omega)) (fun p z => (hp p z).eq (f _ (by omega) (by omega)) (f _ (by omega) (by omega))) (fun e' z => ?_)
    by_cases c : e' = d
    · subst c
      obtain ⟨a1, -, a3, a4, a5, -⟩ := hdd e' hd
      unfold RgD
      rw [f (23 + 6 * e' + 0) (by omega) (by omega), f (23 + 6 * e' + 2) (by omega) (by omega), f (23 + 6 * e' + 3) (by omega) (by omega), f (23 + 6 * e' + 4) (by omega) (by omega), e1, e5]
      refine ⟨a1, ⟨l, hl, rfl, ⟨fun z => e.mp (nI_inj (b := 1) (by omega) (by decide) z), fun z => by rw [e.mpr z]; rfl⟩⟩, a3, a4, a5, ⟨s, hs, rfl⟩⟩
    · exact (hdd e' z).eq fun k hk => f _ (by omega) (by omega)
  refine ⟨r, ?_, ?_⟩
  · unfold pn
    rw [f 0 (by omega) (by omega)]
  · unfold dn
    rw [f 1 (by omega) (by omega)]
theorem WdOk.step {s : WdT} {p taken : Int32} (h : WdOk W s) (hd : d < dn W) : WdOk W (wdS p taken s d) := by
  have hd12 := h.1.1.2.1
  unfold wdS
  by_cases c : 0 < s.2.1 ∧ s.1 (23 + 6 * d + 0) = p ∧ readyR s.1 d = true ∧ hasF taken (s.1 (23 + 6 * d + 3)) = false
  rotate_left
  · rw [if_neg c]
    exact h
  rw [if_pos c]
  obtain ⟨hG, hp, hdn, ⟨k, hk, ek⟩, hr⟩ := h
  obtain ⟨-, ⟨l, hl, el, e1⟩, -⟩ := hG.2.2.2 d (by omega)
  have st0 := readyR_0 c.2.2.1
  have l1 : 1 ≤ l := by
    rcases l with _ | l
    · have := e1.mpr rfl
      rw [st0] at this
      exact absurd this (by decide)
    · omega
  have em : mn s.2.1 (s.1 (23 + 6 * d + 1)) = nI (min k l) := by rw [ek, el, mn_nI (by omega) (by omega)]
  have ex : s.1 (23 + 6 * d + 1) - mn s.2.1 (s.1 (23 + 6 * d + 1)) = nI (l - min k l) := by rw [em, el, nI_sub (by omega)]
  have eh : s.2.1 - mn s.2.1 (s.1 (23 + 6 * d + 1)) = nI (k - min k l) := by rw [em, ek, nI_sub (by omega)]
  rw [ex, eh]
  by_cases c0 : nI (l - min k l) = 0
  · rw [if_pos c0]
    have f : ∀ j, j ≠ 23 + 6 * d + 1 → j ≠ 23 + 6 * d + 5 → ud (ud (ud s.1 (23 + 6 * d + 1) (nI (l - min k l))) (23 + 6 * d + 1) 0) (23 + 6 * d + 5) 1 j = s.1 j := fun j j1 j2 => by rw [ud_ne j2, ud_ne j1, ud_ne j1]
    obtain ⟨g1, g2, g3⟩ := Rg.upd (l := 0) (s := 1) hG (by omega) f (by decide) (by rw [ud_ne (by omega), ud_at]; rfl) (by decide) ud_at (by decide)
    refine ⟨g1, g2.trans hp, g3.trans hdn, ⟨k - min k l, by omega, rfl⟩, fun j hj => ?_⟩
    exact (f j (hj d (by omega)).1 (hj d (by omega)).2).trans (hr j hj)
  · rw [if_neg c0]
    have f : ∀ j, j ≠ 23 + 6 * d + 1 → j ≠ 23 + 6 * d + 5 → ud s.1 (23 + 6 * d + 1) (nI (l - min k l)) j = s.1 j := fun j j1 _ => ud_ne j1
    obtain ⟨g1, g2, g3⟩ := Rg.upd (l := l - min k l) (s := 0) hG (by omega) f (by omega) ud_at (by decide) (by rw [ud_ne (by omega), st0]; rfl) ⟨fun z => by omega, fun z => absurd (by rw [z]; rfl) c0⟩
    refine ⟨g1, g2.trans hp, g3.trans hdn, ⟨k - min k l, by omega, rfl⟩, fun j hj => ?_⟩
    exact (f j (hj d (by omega)).1 (hj d (by omega)).2).trans (hr j hj)
theorem WdOk.run {s : WdT} {p taken : Int32} (h : WdOk W s) : ∀ n, n ≤ dn W → WdOk W (wdF p taken s n) := by
  intro n
  induction n with
  | zero => exact fun _ => h
  | succ n ih => exact fun hn => (ih (by omega)).step (by omega)
theorem f_work (hs : stp a) (hD : Sd I a W) (hG : Rg W) {taken : Int32} (hq : p < pn W) : Sp S m_X5_work 17 0 0 [.ref a, .int (nI p), .int taken] (hp I L w1 w2 t) (fun v h' => v = some (.int (wdF (nI p) taken (W, W (11 + 2 * p + 1), 0) (dn W)).2.2) ∧ ∃ J, h' = hp J L w1 w2 t ∧ (∀ q, q ≠ a + 4 → q ≠ a + 8 → J q = I q) ∧ Sd J a (wdF (nI p) taken (W, W (11 + 2 * p + 1), 0) (dn W)).1) nX := by
  have h12 := hG.1.2.1
  have h6 := hG.1.1
  have e0 : (fun q => I (a + 2) q) p = W (11 + 2 * p + 1) := (hD.2.1 p (by omega)).2
  have fr := (hG.2.2.1 p hq).2
  have ok0 : WdOk W (W, W (11 + 2 * p + 1), 0) := ⟨hG, rfl, rfl, fr, fun _ _ => rfl⟩
  refine Sp_of ok_X5_work rfl rfl ?_
  show AW S m_X5_work 17 _ _ 0 0 0 [some (.ref a), some (.int (nI p)), some (.int taken), none, none, none, none] [] (hp I L w1 w2 t)
  refine a_s rfl rfl ?_
  refine a_s3 rfl rfl rfl rfl rfl rfl ?_
  refine a_l0 rfl rfl rfl ?_
  refine a_getq rfl gfX5_15_5 (kS0 hs) (rS2 hs) ?_
  refine a_l1 rfl rfl rfl ?_
  refine a_eSN1 rfl lX5_86 mo_X11_at (sp_X11_at (kS2 hs)) rfl rfl rfl rfl ?_
  refine a_top (y := W (11 + 2 * p + 1)) ((atF_nI (show p < 6 by omega) (by decide)).trans e0) ?_
  refine a_s4 rfl rfl rfl rfl rfl rfl ?_
  refine a_s rfl rfl ?_
  refine a_s5 rfl rfl rfl rfl rfl rfl ?_
  generalize hs0 : ((W, W (11 + 2 * p + 1), 0) : WdT) = s0 at ok0 ⊢
  refine a_inv (n := dn W) (fun m ls h => ∃ j J, ls = [some (.ref a), some (.int (nI p)), some (.int taken), some (.int (wdF (nI p) taken s0 j).2.2), some (.int (wdF (nI p) taken s0 j).2.1), some (.int (nI j)), none] ∧ h = hp J L w1 w2 t ∧ j ≤ dn W ∧ m = dn W - j ∧ Sd J a (wdF (nI p) taken s0 j).1 ∧ ∀ q, q ≠ a + 4 → q ≠ a + 8 → J q = I q) ⟨0, I, by rw [← hs0]; rfl, rfl, Nat.zero_le _, rfl, by rw [← hs0]; exact hD, fun _ _ _ => rfl⟩ ?_
  rintro m _ _ ⟨j, J, rfl, rfl, hj, hm, hDJ, hf⟩ ih
  have okj := ok0.run (p := nI p) (taken := taken) j hj
  have hdj : J a 3 = nI (dn W) := ((Sd.fd hDJ (f := 3) (g := 1) (by decide)).trans okj.1.1.2.2.2).trans (by rw [okj.2.2.1])
  refine a_l5 rfl rfl rfl ?_
  refine a_l0 rfl rfl rfl ?_
  refine a_getiv (v := nI (dn W)) rfl gfX5_63_5 (kS0 hs) hdj ?_
  refine a_ic_ge rfl (fun c => ?_) (fun c => ?_)
  · have hge := nI_ge_of c (by omega) (by omega)
    obtain rfl : j = dn W := by omega
    refine a_l3 rfl rfl rfl ?_
    exact a_iret rfl rfl ⟨rfl, J, rfl, hf, hDJ⟩
  have hjn := nI_lt_of c (by omega) (by omega)
  refine a_l4 rfl rfl rfl ?_
  refine a_if_le rfl (fun c2 => ?_) (fun c2 => ?_)
  · have e := wdF_stop (p := nI p) (taken := taken) (s := s0) (j := j) (Int32.not_lt.mpr c2) (dn W - j)
    rw [show j + (dn W - j) = dn W by omega] at e
    refine a_l3 rfl rfl rfl ?_
    rw [e]
    exact a_iret rfl rfl ⟨rfl, J, rfl, hf, hDJ⟩
  have hpos := Int32.not_le.mp c2
  have es : wdF (nI p) taken s0 (j + 1) = wdS (nI p) taken (wdF (nI p) taken s0 j) j := rfl
  -- the loop goes on
  have on : ∀ (K : Nat → Nat → Int32) (v : Option Value), Sd K a (wdF (nI p) taken s0 (j + 1)).1 → (∀ q, q ≠ a + 4 → q ≠ a + 8 → K q = I q) → AW S m_X5_work 17 (fun v h' => v = some (.int (wdF (nI p) taken s0 (dn W)).2.2) ∧ ∃ J, h' = hp J L w1 w2 t ∧ (∀ q, q ≠ a + 4 → q ≠ a + 8 → J q = I q) ∧ Sd J a (wdF (nI p) taken s0 (dn W)).1) nX 0 0 144 [some (.ref a), some (.int (nI p)), some (.int taken), some (.int (wdF (nI p) taken s0 (j + 1)).2.2), some (.int (wdF (nI p) taken s0 (j + 1)).2.1), some (.int (nI j)), v] [] (hp K L w1 w2 t) := by
    intro K v hK hfK
    refine a_iv5 (y := nI (j + 1)) rfl rfl rfl ((nI_succ j).symm) ?_
    refine a_goto rfl ?_
    exact a_less (ih (dn W - (j + 1)) _ _ (by omega) ⟨j + 1, K, rfl, rfl, by omega, rfl, hK, hfK⟩) ⟨rfl, rfl, rfl, rfl, rfl, rfl, trivial⟩
  have skip : (¬ (0 < (wdF (nI p) taken s0 j).2.1 ∧ (wdF (nI p) taken s0 j).1 (23 + 6 * j + 0) = nI p ∧ readyR (wdF (nI p) taken s0 j).1 j = true ∧ hasF taken ((wdF (nI p) taken s0 j).1 (23 + 6 * j + 3)) = false)) → wdF (nI p) taken s0 (j + 1) = wdF (nI p) taken s0 j := fun z => if_neg z
  generalize hsj : wdF (nI p) taken s0 j = sj at hDJ okj hpos es skip on ⊢
  have row : ∀ k, k < 6 → J (a + 3 + k) j = sj.1 (23 + 6 * j + k) := fun k hk => hDJ.2.2 j (by omega) k hk
  refine a_l0 rfl rfl rfl ?_
  refine a_getq rfl gfX5_18_5 (kS0 hs) (rS4 hs) ?_
  refine a_l5 rfl rfl rfl ?_
  refine a_eSN1 rfl lX5_86 mo_X11_at (sp_X11_at (kS3 hs)) rfl rfl rfl rfl ?_
  refine a_top (y := sj.1 (23 + 6 * j + 0)) ((atF_nI (show j < 12 by omega) (by decide)).trans (row 0 (by decide))) ?_
  refine a_l1 rfl rfl rfl ?_
  refine a_ic_ne rfl (fun c3 => ?_) (fun c3 => ?_)
  · have e := skip (fun z => c3 z.2.1)
    have on := on J none (by rw [e]; exact hDJ) hf
    rw [e] at on
    exact on
  refine a_l0 rfl rfl rfl ?_
  refine a_l5 rfl rfl rfl ?_
  refine a_eV1 rfl lX5_101 mo_X5_isReady (sp_X5_isReady (nd := dn W) hs hdj h12) rfl rfl rfl ⟨5, _, kS0 hs, rfl, rfl⟩ rfl ?_
  rw [show rdF (dn W) (J (a + 8)) (J (a + 7)) (nI j) = readyR sj.1 j by rw [← okj.2.2.1]; exact rd_same hDJ okj.1 (by rw [okj.2.2.1]; exact hjn)]
  obtain ⟨z, hz⟩ : ∃ z, readyR sj.1 j = z := ⟨_, rfl⟩
  rw [hz]
  cases z with
  | false =>
    refine a_if_eq rfl (fun _ => ?_) (fun c => absurd rfl c)
    have e := skip (fun y => by rw [hz] at y; exact Bool.false_ne_true y.2.2.1)
    have on := on J none (by rw [e]; exact hDJ) hf
    rw [e] at on
    exact on
  | true =>
  refine a_if_eq rfl (fun c => absurd c (by decide)) (fun _ => ?_)
  refine a_l2 rfl rfl rfl ?_
  refine a_l0 rfl rfl rfl ?_
  refine a_getq rfl gfX5_27_5 (kS0 hs) (rS7 hs) ?_
  refine a_l5 rfl rfl rfl ?_
  refine a_eSN1 rfl lX5_86 mo_X11_at (sp_X11_at (kS6 hs)) rfl rfl rfl rfl ?_
  refine a_top (y := sj.1 (23 + 6 * j + 3)) ((atF_nI (show j < 12 by omega) (by decide)).trans (row 3 (by decide))) ?_
  refine a_eSN1 rfl lX5_149 mo_X11_has sp_X11_has rfl rfl rfl rfl ?_
  obtain ⟨z2, hz2⟩ : ∃ z, hasF taken (sj.1 (23 + 6 * j + 3)) = z := ⟨_, rfl⟩
  rw [hz2]
  cases z2 with
  | true =>
    refine a_if_ne rfl (fun _ => ?_) (fun c => absurd c (by decide))
    have e := skip (fun y => by rw [hz2] at y; exact absurd y.2.2.2 (by decide))
    have on := on J none (by rw [e]; exact hDJ) hf
    rw [e] at on
    exact on
  | false =>
  refine a_if_ne rfl (fun c => absurd rfl c) (fun _ => ?_)
  have ec : 0 < sj.2.1 ∧ sj.1 (23 + 6 * j + 0) = nI p ∧ readyR sj.1 j = true ∧ hasF taken (sj.1 (23 + 6 * j + 3)) = false := ⟨hpos, c3, hz, hz2⟩
  refine a_l4 rfl rfl rfl ?_
  refine a_l0 rfl rfl rfl ?_
  refine a_getq rfl gfX5_21_5 (kS0 hs) (rS5 hs) ?_
  refine a_l5 rfl rfl rfl ?_
  refine a_eSN1 rfl lX5_86 mo_X11_at (sp_X11_at (kS4 hs)) rfl rfl rfl rfl ?_
  refine a_top (y := sj.1 (23 + 6 * j + 1)) ((atF_nI (show j < 12 by omega) (by decide)).trans (row 1 (by decide))) ?_
  refine a_min rfl lX5_127 mj_min rfl rfl ?_
  refine a_top (y := mn sj.2.1 (sj.1 (23 + 6 * j + 1))) (rfl) ?_
  refine a_s6 rfl rfl rfl rfl rfl rfl ?_
  refine a_l4 rfl rfl rfl ?_
  refine a_l6 rfl rfl rfl ?_
  refine a_s rfl rfl ?_
  refine a_s4 rfl rfl rfl rfl rfl rfl ?_
  refine a_l3 rfl rfl rfl ?_
  refine a_l0 rfl rfl rfl ?_
  refine a_getq rfl gfX5_27_5 (kS0 hs) (rS7 hs) ?_
  refine a_l5 rfl rfl rfl ?_
  refine a_eSN1 rfl lX5_86 mo_X11_at (sp_X11_at (kS6 hs)) rfl rfl rfl rfl ?_
  refine a_top (y := sj.1 (23 + 6 * j + 3)) ((atF_nI (show j < 12 by omega) (by decide)).trans (row 3 (by decide))) ?_
  refine a_eSN1 rfl lX5_97 mo_X11_bit sp_X11_bit rfl rfl rfl rfl ?_
  refine a_s rfl rfl ?_
  refine a_s3 rfl rfl rfl rfl rfl rfl ?_
  refine a_l0 rfl rfl rfl ?_
  refine a_getq rfl gfX5_21_5 (kS0 hs) (rS5 hs) ?_
  refine a_l5 rfl rfl rfl ?_
  refine a_l0 rfl rfl rfl ?_
  refine a_getq rfl gfX5_21_5 (kS0 hs) (rS5 hs) ?_
  refine a_l5 rfl rfl rfl ?_
  refine a_eSN1 rfl lX5_86 mo_X11_at (sp_X11_at (kS4 hs)) rfl rfl rfl rfl ?_
  refine a_top (y := sj.1 (23 + 6 * j + 1)) ((atF_nI (show j < 12 by omega) (by decide)).trans (row 1 (by decide))) ?_
  refine a_l6 rfl rfl rfl ?_
  refine a_s rfl rfl ?_
  refine a_eSN0 rfl lX5_82 mo_X11_setAt (sp_X11_setAt (kS4 hs)) rfl rfl rfl rfl ?_
  rw [setF_nI (show j < 12 by omega) (by decide)]
  have D1 : Sd (up2 J (a + 4) j (sj.1 (23 + 6 * j + 1) - mn sj.2.1 (sj.1 (23 + 6 * j + 1)))) a (ud sj.1 (23 + 6 * j + 1) (sj.1 (23 + 6 * j + 1) - mn sj.2.1 (sj.1 (23 + 6 * j + 1)))) := Sd.ro (k := 1) hDJ (by omega) (by decide)
  refine a_l0 rfl rfl rfl ?_
  refine a_getq rfl gfX5_21_5 (kS0 hs) (rS5 hs) ?_
  refine a_l5 rfl rfl rfl ?_
  refine a_eSN1 rfl lX5_86 mo_X11_at (sp_X11_at (kS4 hs)) rfl rfl rfl rfl ?_
  refine a_top (y := sj.1 (23 + 6 * j + 1) - mn sj.2.1 (sj.1 (23 + 6 * j + 1))) ((atF_nI (show j < 12 by omega) (by decide)).trans up2_at) ?_
  by_cases c0 : sj.1 (23 + 6 * j + 1) - mn sj.2.1 (sj.1 (23 + 6 * j + 1)) = 0
  · refine a_if_ne rfl (fun c => absurd c0 c) (fun _ => ?_)
    have ew : wdF (nI p) taken s0 (j + 1) = (ud (ud (ud sj.1 (23 + 6 * j + 1) (sj.1 (23 + 6 * j + 1) - mn sj.2.1 (sj.1 (23 + 6 * j + 1)))) (23 + 6 * j + 1) 0) (23 + 6 * j + 5) 1, sj.2.1 - mn sj.2.1 (sj.1 (23 + 6 * j + 1)), sj.2.2 ||| bitF (sj.1 (23 + 6 * j + 3))) := by
      rw [es]
      unfold wdS
      rw [if_pos ec, if_pos c0]
    rw [ew] at on
    refine a_l0 rfl rfl rfl ?_
    refine a_l5 rfl rfl rfl ?_
    refine a_eV0 rfl lX5_153 mo_X5_finish (sp_X5_finish hs) rfl rfl rfl ⟨5, _, kS0 hs, rfl, rfl⟩ rfl ?_
    unfold finF
    rw [setF_nI (show j < 12 by omega) (by decide), setF_nI (show j < 12 by omega) (by decide)]
    exact on _ _ (Sd.ro (k := 5) (Sd.ro (k := 1) D1 (by omega) (by decide)) (by omega) (by decide)) (fun q h4 h8 => by rw [up2_row h8, up2_row h4, up2_row h4]; exact hf q h4 h8)
  · refine a_if_ne rfl (fun _ => ?_) (fun c => absurd c c0)
    have ew : wdF (nI p) taken s0 (j + 1) = (ud sj.1 (23 + 6 * j + 1) (sj.1 (23 + 6 * j + 1) - mn sj.2.1 (sj.1 (23 + 6 * j + 1))), sj.2.1 - mn sj.2.1 (sj.1 (23 + 6 * j + 1)), sj.2.2 ||| bitF (sj.1 (23 + 6 * j + 3))) := by
      rw [es]
      unfold wdS
      rw [if_pos ec, if_neg c0]
    rw [ew] at on
    exact on _ _ D1 (fun q h4 h8 => by rw [up2_row h4]; exact hf q h4 h8)
end T79w
end
section
/-! ===== a day's work: the reference ===== -/
section T79x
variable {S : aS} {I : Nat → Nat → Int32} {L : Nat → Nat → Int64} {w1 w2 t : Nat} {d p : Nat} {W : Nat → Int32} {taken had : Int32}
set_option maxRecDepth 100000
/-- who has which tool -/
def HHd (H : Nat → Int32) (taken had : Int32) (p : Nat) : Prop := ∀ k, k < 6 → (hasF taken (nI k) = true → ∃ q, q < p ∧ H k = nI q) ∧ (hasF taken (nI k) = false → hasF had (nI k) = true → H k = nI p) ∧ (hasF taken (nI k) = false → hasF had (nI k) = false → H k = -1)
theorem hasF_no {s : Int32} : hasF s (-1) = false := by
  unfold hasF bitF
  rw [if_pos (by decide)]
  refine decide_eq_false fun z => z (b_ext fun i hi => ?_)
  rw [b_and, b_0, Bool.and_false]
theorem bitF_no : bitF (-1) = 0 := if_pos (by decide)
theorem or_0 {s : Int32} : s ||| 0 = s := b_ext fun i hi => by rw [b_or, b_0, Bool.or_false]
theorem h_hasTool (h421 : I 421 = W) (hd : d < 12) (hH : HHd (I 429) taken had p) (ht : W (23 + 6 * d + 3) = -1 ∨ Nb (W (23 + 6 * d + 3)) 5) (h6 : p < 6) : SpE S m_X12_hasTool 14 [.ref 420, .int (nI d), .int (nI p)] (hp I L w1 w2 t) (some (.int (bI (!hasF taken (W (23 + 6 * d + 3)))))) (hp I L w1 w2 t) := by
  refine SpE_of ok_X12_hasTool rfl rfl ?_
  show AW S m_X12_hasTool 14 _ _ 0 0 0 [some (.ref 420), some (.int (nI d)), some (.int (nI p)), none] [] (hp I L w1 w2 t)
  refine a_l0 rfl rfl rfl ?_
  refine a_l1 rfl rfl rfl ?_
  refine a_s rfl rfl ?_
  refine a_eV1 rfl lX12_63 mo_X12_of (sp_X12_of (d := d) (k := 3) hd (by decide)) rfl rfl rfl ⟨12, _, rfl, rfl, rfl⟩ rfl ?_
  refine a_top (y := W (23 + 6 * d + 3)) (congrFun h421 _) ?_
  refine a_s3 rfl rfl rfl rfl rfl rfl ?_
  refine a_l3 rfl rfl rfl ?_
  refine a_s rfl rfl ?_
  refine a_ic_eq rfl (fun c => ?_) (fun c => ?_)
  · rw [c, hasF_no]
    refine a_s rfl rfl ?_
    refine a_goto rfl ?_
    exact a_zret rfl rfl rfl ⟨rfl, rfl⟩
  obtain ⟨k, hk, ek⟩ := ht.resolve_left c
  obtain ⟨g1, g2, g3⟩ := hH k (by omega)
  rw [ek]
  refine a_l0 rfl rfl rfl ?_
  refine a_getq rfl gfX12_42_12 rfl (rfl) ?_
  refine a_l3 rfl rfl rfl ?_
  refine a_ialdv (v := I 429 k) rfl (n := 6) rfl (inI_nI (by omega) (by decide)) (by rw [nI_clamp (by omega)]) ?_
  refine a_s rfl rfl ?_
  cases ht : hasF taken (nI k) with
  | true =>
    obtain ⟨q, hq, eq⟩ := g1 ht
    refine a_ic_eq rfl (fun c => ?_) (fun _ => ?_)
    · exfalso
      rw [eq] at c
      have := nI_pos (show q < 2 ^ 31 by omega)
      rw [c] at this
      exact this (by decide)
    refine a_l0 rfl rfl rfl ?_
    refine a_getq rfl gfX12_42_12 rfl (rfl) ?_
    refine a_l3 rfl rfl rfl ?_
    refine a_ialdv (v := I 429 k) rfl (n := 6) rfl (inI_nI (by omega) (by decide)) (by rw [nI_clamp (by omega)]) ?_
    refine a_l2 rfl rfl rfl ?_
    refine a_ic_ne rfl (fun _ => ?_) (fun c => ?_)
    · refine a_s rfl rfl ?_
      exact a_zret rfl rfl rfl ⟨rfl, rfl⟩
    · exfalso
      rw [eq] at c
      have := nI_inj (by omega) (by omega) c
      omega
  | false =>
    cases hh : hasF had (nI k) with
    | false =>
      refine a_ic_eq rfl (fun _ => ?_) (fun c => absurd (g3 ht hh) c)
      refine a_s rfl rfl ?_
      refine a_goto rfl ?_
      exact a_zret rfl rfl rfl ⟨rfl, rfl⟩
    | true =>
      have e := g2 ht hh
      refine a_ic_eq rfl (fun _ => ?_) (fun _ => ?_)
      · refine a_s rfl rfl ?_
        refine a_goto rfl ?_
        exact a_zret rfl rfl rfl ⟨rfl, rfl⟩
      refine a_l0 rfl rfl rfl ?_
      refine a_getq rfl gfX12_42_12 rfl (rfl) ?_
      refine a_l3 rfl rfl rfl ?_
      refine a_ialdv (v := I 429 k) rfl (n := 6) rfl (inI_nI (by omega) (by decide)) (by rw [nI_clamp (by omega)]) ?_
      refine a_l2 rfl rfl rfl ?_
      refine a_ic_ne rfl (fun c => absurd e c) (fun _ => ?_)
      refine a_s rfl rfl ?_
      refine a_goto rfl ?_
      exact a_zret rfl rfl rfl ⟨rfl, rfl⟩
theorem ud_same {k : Nat} : ud W k (W k) = W := by
  funext j
  by_cases c : j = k
  · rw [c, ud_at]
  · rw [ud_ne c]
theorem HHd.tk {H : Nat → Int32} {k : Nat} (h : HHd H taken had p) (hk : k < 6) (ht : hasF taken (nI k) = false) : HHd (fun j => if j = k then nI p else H j) taken (had ||| bitF (nI k)) p := fun j hj => by
  obtain ⟨g1, g2, g3⟩ := h j hj
  rw [hasF_or (show j < 31 by omega), hasF_bit (show k < 31 by omega) (show j < 31 by omega)]
  by_cases c : j = k
  · subst c
    refine ⟨fun z => ?_, fun _ _ => if_pos rfl, fun _ z => ?_⟩
    · rw [ht] at z
      cases z
    · rw [decide_eq_true rfl, Bool.or_true] at z
      cases z
  · rw [decide_eq_false c, Bool.or_false]
    refine ⟨fun z => ?_, fun z1 z2 => ?_, fun z1 z2 => ?_⟩
    · obtain ⟨q, q1, q2⟩ := g1 z
      exact ⟨q, q1, (if_neg c).trans q2⟩
    · exact (if_neg c).trans (g2 z1 z2)
    · exact (if_neg c).trans (g3 z1 z2)
theorem h_works (hG : Rg (I 421)) (hq : p < pn (I 421)) (hH : HHd (I 429) taken 0 p) : Sp S m_X12_works 18 0 0 [.ref 420, .int (nI p)] (hp I L w1 w2 t) (fun v h' => ∃ x, v = some (.int x) ∧ ∃ J, h' = hp J L w1 w2 t ∧ (∀ q, q ≠ 421 → q ≠ 429 → J q = I q) ∧ J 421 = (wdF (nI p) taken (I 421, I 421 (11 + 2 * p + 1), 0) (dn (I 421))).1 ∧ HHd (J 429) taken (wdF (nI p) taken (I 421, I 421 (11 + 2 * p + 1), 0) (dn (I 421))).2.2 p) nX := by
  generalize hW : I 421 = W at hG hq ⊢
  have h12 := hG.1.2.1
  have h6 := hG.1.1
  have ok0 : WdOk W (W, W (11 + 2 * p + 1), 0) := ⟨hG, rfl, rfl, (hG.2.2.1 p hq).2, fun _ _ => rfl⟩
  refine Sp_of ok_X12_works rfl rfl ?_
  show AW S m_X12_works 18 _ _ 0 0 0 [some (.ref 420), some (.int (nI p)), none, none, none, none] [] (hp I L w1 w2 t)
  refine a_l0 rfl rfl rfl ?_
  refine a_l1 rfl rfl rfl ?_
  refine a_s rfl rfl ?_
  refine a_eV1 rfl lX12_252 mo_X12_ofPerson (sp_X12_ofPerson (d := p) (k := 1) (by omega) (by decide)) rfl rfl rfl ⟨12, _, rfl, rfl, rfl⟩ rfl ?_
  refine a_top (y := W (11 + 2 * p + 1)) (congrFun hW _) ?_
  refine a_s2 rfl rfl rfl rfl rfl rfl ?_
  refine a_s rfl rfl ?_
  refine a_s3 rfl rfl rfl rfl rfl rfl ?_
  refine a_s rfl rfl ?_
  refine a_s4 rfl rfl rfl rfl rfl rfl ?_
  generalize hs0 : ((W, W (11 + 2 * p + 1), 0) : WdT) = s0 at ok0 ⊢
  refine a_inv (n := dn W) (fun m ls h => ∃ j y J, ls = [some (.ref 420), some (.int (nI p)), some (.int (wdF (nI p) taken s0 j).2.1), some (.int y), some (.int (nI j)), none] ∧ h = hp J L w1 w2 t ∧ j ≤ dn W ∧ m = dn W - j ∧ J 421 = (wdF (nI p) taken s0 j).1 ∧ HHd (J 429) taken (wdF (nI p) taken s0 j).2.2 p ∧ ∀ q, q ≠ 421 → q ≠ 429 → J q = I q) ⟨0, 0, I, by rw [← hs0]; rfl, rfl, Nat.zero_le _, rfl, by rw [← hs0]; exact hW, by rw [← hs0]; exact hH, fun _ _ _ => rfl⟩ ?_
  rintro m _ _ ⟨j, y, J, rfl, rfl, hj, hm, eJ, hHJ, hf⟩ ih
  have okj := ok0.run (p := nI p) (taken := taken) j hj
  refine a_l4 rfl rfl rfl ?_
  refine a_l0 rfl rfl rfl ?_
  refine a_eV1 rfl lX12_74 mo_X12_duties sp_X12_duties rfl rfl rfl ⟨12, _, rfl, rfl, rfl⟩ rfl ?_
  refine a_top (y := nI (dn W)) (by rw [eJ, okj.1.1.2.2.2, okj.2.2.1]) ?_
  refine a_ic_ge rfl (fun c => ?_) (fun c => ?_)
  · have hge := nI_ge_of c (by omega) (by omega)
    obtain rfl : j = dn W := by omega
    refine a_l3 rfl rfl rfl ?_
    exact a_iret rfl rfl ⟨_, rfl, J, rfl, hf, eJ, hHJ⟩
  have hjn := nI_lt_of c (by omega) (by omega)
  have es : wdF (nI p) taken s0 (j + 1) = wdS (nI p) taken (wdF (nI p) taken s0 j) j := rfl
  -- the loop goes on
  have on : ∀ (K : Nat → Nat → Int32) (v : Option Value) (y : Int32), K 421 = (wdF (nI p) taken s0 (j + 1)).1 → HHd (K 429) taken (wdF (nI p) taken s0 (j + 1)).2.2 p → (∀ q, q ≠ 421 → q ≠ 429 → K q = I q) → AW S m_X12_works 18 (fun v h' => ∃ x, v = some (.int x) ∧ ∃ J, h' = hp J L w1 w2 t ∧ (∀ q, q ≠ 421 → q ≠ 429 → J q = I q) ∧ J 421 = (wdF (nI p) taken s0 (dn W)).1 ∧ HHd (J 429) taken (wdF (nI p) taken s0 (dn W)).2.2 p) nX 0 0 139 [some (.ref 420), some (.int (nI p)), some (.int (wdF (nI p) taken s0 (j + 1)).2.1), some (.int y), some (.int (nI j)), v] [] (hp K L w1 w2 t) := by
    intro K v y hK hHK hfK
    refine a_iv4 (y := nI (j + 1)) rfl rfl rfl ((nI_succ j).symm) ?_
    refine a_goto rfl ?_
    exact a_less (ih (dn W - (j + 1)) _ _ (by omega) ⟨j + 1, y, K, rfl, rfl, by omega, rfl, hK, hHK, hfK⟩) ⟨rfl, rfl, rfl, rfl, rfl, trivial⟩
  have skip : (¬ (0 < (wdF (nI p) taken s0 j).2.1 ∧ (wdF (nI p) taken s0 j).1 (23 + 6 * j + 0) = nI p ∧ readyR (wdF (nI p) taken s0 j).1 j = true ∧ hasF taken ((wdF (nI p) taken s0 j).1 (23 + 6 * j + 3)) = false)) → wdF (nI p) taken s0 (j + 1) = wdF (nI p) taken s0 j := fun z => if_neg z
  generalize hsj : wdF (nI p) taken s0 j = sj at eJ hHJ okj es skip on ⊢
  have gj : ∀ k, J 421 k = sj.1 k := fun k => congrFun eJ k
  have nj : dn sj.1 = dn W := okj.2.2.1
  have dj := okj.1.2.2.2 j (by omega)
  have next : ∀ v, wdF (nI p) taken s0 (j + 1) = sj → AW S m_X12_works 18 (fun v h' => ∃ x, v = some (.int x) ∧ ∃ J, h' = hp J L w1 w2 t ∧ (∀ q, q ≠ 421 → q ≠ 429 → J q = I q) ∧ J 421 = (wdF (nI p) taken s0 (dn W)).1 ∧ HHd (J 429) taken (wdF (nI p) taken s0 (dn W)).2.2 p) nX 0 0 139 [some (.ref 420), some (.int (nI p)), some (.int sj.2.1), some (.int y), some (.int (nI j)), v] [] (hp J L w1 w2 t) := fun v e => by
    have on := on J v y (by rw [e]; exact eJ) (by rw [e]; exact hHJ) hf
    rw [e] at on
    exact on
  refine a_l0 rfl rfl rfl ?_
  refine a_l4 rfl rfl rfl ?_
  refine a_s rfl rfl ?_
  refine a_eV1 rfl lX12_63 mo_X12_of (sp_X12_of (d := j) (k := 0) (by omega) (by decide)) rfl rfl rfl ⟨12, _, rfl, rfl, rfl⟩ rfl ?_
  refine a_top (y := sj.1 (23 + 6 * j + 0)) (gj _) ?_
  refine a_l1 rfl rfl rfl ?_
  refine a_ic_ne rfl (fun c3 => ?_) (fun c3 => ?_)
  · exact next _ (skip fun z => c3 z.2.1)
  refine a_l0 rfl rfl rfl ?_
  refine a_l4 rfl rfl rfl ?_
  refine a_eV1 rfl lX12_273 mo_X12_isReady (sp_X12_isReady (nd := dn W) h12 hjn (by rw [eJ, ← nj]; exact okj.1.so.l)) rfl rfl rfl ⟨12, _, rfl, rfl, rfl⟩ rfl ?_
  obtain ⟨z, hz⟩ : ∃ z, readyR sj.1 j = z := ⟨_, rfl⟩
  refine a_top (y := bI z) (by rw [eJ, ← hz]; rfl) ?_
  cases z with
  | false =>
    refine a_if_eq rfl (fun _ => ?_) (fun c => absurd rfl c)
    exact next _ (skip fun y => by rw [hz] at y; exact Bool.false_ne_true y.2.2.1)
  | true =>
  refine a_if_eq rfl (fun c => absurd c (by decide)) (fun _ => ?_)
  refine a_l0 rfl rfl rfl ?_
  refine a_l4 rfl rfl rfl ?_
  refine a_l1 rfl rfl rfl ?_
  refine a_eV1 rfl lX12_367 mo_X12_hasTool (h_hasTool (W := sj.1) (had := sj.2.2) eJ (by omega) hHJ dj.2.2.2.1 (by omega)) rfl rfl rfl ⟨12, _, rfl, rfl, rfl⟩ rfl ?_
  obtain ⟨z2, hz2⟩ : ∃ z, hasF taken (sj.1 (23 + 6 * j + 3)) = z := ⟨_, rfl⟩
  rw [hz2]
  cases z2 with
  | true =>
    refine a_if_ne rfl (fun c => absurd rfl c) (fun _ => ?_)
    refine a_goto rfl ?_
    exact next _ (skip fun y => by rw [hz2] at y; exact absurd y.2.2.2 (by decide))
  | false =>
  refine a_if_ne rfl (fun _ => ?_) (fun c => absurd c (by decide))
  obtain ⟨hh, hh9, eh⟩ := okj.2.2.2.1
  obtain ⟨-, ⟨l, hl, el, e1⟩, -, htl, -⟩ := dj
  have st0 := readyR_0 hz
  have l1 : 1 ≤ l := by
    rcases l with _ | l
    · have := e1.mpr rfl
      rw [st0] at this
      exact absurd this (by decide)
    · omega
  have em : mn sj.2.1 (sj.1 (23 + 6 * j + 1)) = nI (min hh l) := by rw [eh, el, mn_nI (by omega) (by omega)]
  refine a_l2 rfl rfl rfl ?_
  refine a_l0 rfl rfl rfl ?_
  refine a_l4 rfl rfl rfl ?_
  refine a_s rfl rfl ?_
  refine a_eV1 rfl lX12_63 mo_X12_of (sp_X12_of (d := j) (k := 1) (by omega) (by decide)) rfl rfl rfl ⟨12, _, rfl, rfl, rfl⟩ rfl ?_
  refine a_top (y := sj.1 (23 + 6 * j + 1)) (gj _) ?_
  refine a_min rfl lX12_295 mj_min rfl rfl ?_
  refine a_top (y := nI (min hh l)) (em) ?_
  refine a_s5 rfl rfl rfl rfl rfl rfl ?_
  -- behind the tool: hours, left, perhaps done
  have k96 : ∀ (K : Nat → Nat → Int32), K 421 = sj.1 → (∀ q, q ≠ 421 → q ≠ 429 → K q = I q) → (hh = 0 → HHd (K 429) taken sj.2.2 p) → (¬ hh = 0 → HHd (K 429) taken (sj.2.2 ||| bitF (sj.1 (23 + 6 * j + 3))) p) → AW S m_X12_works 18 (fun v h' => ∃ x, v = some (.int x) ∧ ∃ J, h' = hp J L w1 w2 t ∧ (∀ q, q ≠ 421 → q ≠ 429 → J q = I q) ∧ J 421 = (wdF (nI p) taken s0 (dn W)).1 ∧ HHd (J 429) taken (wdF (nI p) taken s0 (dn W)).2.2 p) nX 0 0 96 [some (.ref 420), some (.int (nI p)), some (.int sj.2.1), some (.int y), some (.int (nI j)), some (.int (nI (min hh l)))] [] (hp K L w1 w2 t) := by
    intro K eK hfK hH0 hH1
    refine a_l2 rfl rfl rfl ?_
    refine a_l5 rfl rfl rfl ?_
    refine a_s rfl rfl ?_
    refine a_top (y := nI (hh - min hh l)) (by rw [eh, nI_sub (by omega)]) ?_
    refine a_s2 rfl rfl rfl rfl rfl rfl ?_
    refine a_l0 rfl rfl rfl ?_
    refine a_getq rfl gfX12_13_12 rfl (rfl) ?_
    refine a_l4 rfl rfl rfl ?_
    refine a_s rfl rfl ?_
    refine a_eS1 rfl lX12_60 mo_X12_at (sp_X12_at (d := j) (k := 1)) rfl rfl rfl rfl ?_
    refine a_s rfl rfl ?_
    refine a_ialdv (v := nI l) rfl (n := 2033) rfl (inI_nI (by omega) (by omega)) (by rw [nI_clamp (by omega), eK, el]) ?_
    refine a_l5 rfl rfl rfl ?_
    refine a_s rfl rfl ?_
    refine a_top (y := nI (l - min hh l)) (nI_sub (by omega)) ?_
    refine a_iastv (k := 23 + 6 * j + 1) rfl (n := 2033) rfl (inI_nI (by omega) (by omega)) (nI_clamp (by omega)) ?_
    have eK1 : up2 K 421 (23 + 6 * j + 1) (nI (l - min hh l)) 421 = ud sj.1 (23 + 6 * j + 1) (nI (l - min hh l)) := by rw [up2_ud, eK]
    refine a_l0 rfl rfl rfl ?_
    refine a_l4 rfl rfl rfl ?_
    refine a_s rfl rfl ?_
    refine a_eV1 rfl lX12_63 mo_X12_of (sp_X12_of (d := j) (k := 1) (by omega) (by decide)) rfl rfl rfl ⟨12, _, rfl, rfl, rfl⟩ rfl ?_
    refine a_top (y := nI (l - min hh l)) (up2_at) ?_
    by_cases h0 : hh = 0
    · -- no hours: nothing
      have ec : ¬ (0 < sj.2.1 ∧ sj.1 (23 + 6 * j + 0) = nI p ∧ readyR sj.1 j = true ∧ hasF taken (sj.1 (23 + 6 * j + 3)) = false) := fun z => by
        have := z.1
        rw [eh, h0] at this
        exact absurd this (by decide)
      have e := skip ec
      refine a_if_le rfl (fun c => ?_) (fun _ => ?_)
      · exfalso
        have := Int32.le_iff_toInt_le.mp c
        rw [nI_toInt (by omega), show (0 : Int32).toInt = 0 from rfl] at this
        omega
      have on := on (up2 K 421 (23 + 6 * j + 1) (nI (l - min hh l))) (some (.int (nI (min hh l)))) y (by rw [eK1, e, show l - min hh l = l by omega, ← el]; exact ud_same) (by rw [e, up2_row (by decide)]; exact hH0 h0) (fun q h1 h2 => by rw [up2_row h1]; exact hfK q h1 h2)
      rw [e, eh, show nI hh = nI (hh - min hh l) by rw [h0]; rfl] at on
      refine a_goto rfl ?_
      exact on
    have ec : 0 < sj.2.1 ∧ sj.1 (23 + 6 * j + 0) = nI p ∧ readyR sj.1 j = true ∧ hasF taken (sj.1 (23 + 6 * j + 3)) = false := ⟨by
      rw [eh, Int32.lt_iff_toInt_lt, nI_toInt (by omega)]
      show (0 : Int) < _
      omega, c3, hz, hz2⟩
    have ex : sj.1 (23 + 6 * j + 1) - mn sj.2.1 (sj.1 (23 + 6 * j + 1)) = nI (l - min hh l) := by rw [em, el, nI_sub (by omega)]
    have eh2 : sj.2.1 - mn sj.2.1 (sj.1 (23 + 6 * j + 1)) = nI (hh - min hh l) := by rw [em, eh, nI_sub (by omega)]
    by_cases c0 : nI (l - min hh l) = 0
    · refine a_if_le rfl (fun _ => ?_) (fun c => absurd (by rw [c0]; exact Int32.le_refl _) c)
      have ew : wdF (nI p) taken s0 (j + 1) = (ud (ud (ud sj.1 (23 + 6 * j + 1) (nI (l - min hh l))) (23 + 6 * j + 1) 0) (23 + 6 * j + 5) 1, nI (hh - min hh l), sj.2.2 ||| bitF (sj.1 (23 + 6 * j + 3))) := by
        rw [es]
        unfold wdS
        rw [if_pos ec, ex, eh2, if_pos c0]
      rw [ew] at on
      refine a_l0 rfl rfl rfl ?_
      refine a_l4 rfl rfl rfl ?_
      refine a_eV0 rfl lX12_360 mo_X12_finishes (h_finishes (i := j) (by omega)) rfl rfl rfl ⟨12, _, rfl, rfl, rfl⟩ rfl ?_
      refine a_i3 rfl rfl rfl ?_
      exact on _ _ _ (by rw [up2_ud, up2_ud, eK1]) (by rw [up2_row (by decide), up2_row (by decide), up2_row (by decide)]; exact hH1 h0) (fun q h1 h2 => by rw [up2_row h1, up2_row h1, up2_row h1]; exact hfK q h1 h2)
    · refine a_if_le rfl (fun c => ?_) (fun _ => ?_)
      · exfalso
        have := Int32.le_iff_toInt_le.mp c
        rw [nI_toInt (by omega), show (0 : Int32).toInt = 0 from rfl] at this
        exact c0 (by rw [show l - min hh l = 0 by omega]; rfl)
      have ew : wdF (nI p) taken s0 (j + 1) = (ud sj.1 (23 + 6 * j + 1) (nI (l - min hh l)), nI (hh - min hh l), sj.2.2 ||| bitF (sj.1 (23 + 6 * j + 3))) := by
        rw [es]
        unfold wdS
        rw [if_pos ec, ex, eh2, if_neg c0]
      rw [ew] at on
      refine a_goto rfl ?_
      exact on _ _ _ eK1 (by rw [up2_row (by decide)]; exact hH1 h0) (fun q h1 h2 => by rw [up2_row h1]; exact hfK q h1 h2)
  refine a_l5 rfl rfl rfl ?_
  refine a_if_le rfl (fun c4 => ?_) (fun c4 => ?_)
  · have h0 : hh = 0 := by
      have := Int32.le_iff_toInt_le.mp c4
      rw [nI_toInt (by omega), show (0 : Int32).toInt = 0 from rfl] at this
      omega
    exact k96 J eJ hf (fun _ => hHJ) (fun z => absurd h0 z)
  have h0 : ¬ hh = 0 := fun z => c4 (by rw [z, Nat.zero_min]; decide)
  refine a_l0 rfl rfl rfl ?_
  refine a_l4 rfl rfl rfl ?_
  refine a_s rfl rfl ?_
  refine a_eV1 rfl lX12_63 mo_X12_of (sp_X12_of (d := j) (k := 3) (by omega) (by decide)) rfl rfl rfl ⟨12, _, rfl, rfl, rfl⟩ rfl ?_
  refine a_top (y := sj.1 (23 + 6 * j + 3)) (gj _) ?_
  refine a_s rfl rfl ?_
  refine a_ic_eq rfl (fun c5 => ?_) (fun c5 => ?_)
  · exact k96 J eJ hf (fun z => absurd z h0) (fun _ => by rw [c5, bitF_no, or_0]; exact hHJ)
  obtain ⟨k, hk, ek⟩ := htl.resolve_left c5
  refine a_l0 rfl rfl rfl ?_
  refine a_getq rfl gfX12_42_12 rfl (rfl) ?_
  refine a_l0 rfl rfl rfl ?_
  refine a_l4 rfl rfl rfl ?_
  refine a_s rfl rfl ?_
  refine a_eV1 rfl lX12_63 mo_X12_of (sp_X12_of (d := j) (k := 3) (by omega) (by decide)) rfl rfl rfl ⟨12, _, rfl, rfl, rfl⟩ rfl ?_
  refine a_top (y := nI k) ((gj _).trans ek) ?_
  refine a_l1 rfl rfl rfl ?_
  refine a_iastv (k := k) rfl (n := 6) rfl (inI_nI (by omega) (by omega)) (nI_clamp (by omega)) ?_
  refine k96 _ ((up2_row (by decide)).trans eJ) (fun q h1 h2 => by rw [up2_row h2]; exact hf q h1 h2) (fun z => absurd z h0) (fun _ => ?_)
  rw [up2_ud, ek]
  exact HHd.tk hHJ (by omega) (by rw [← ek]; exact hz2)
end T79x
end
section
/-! ===== a month more, on the row; both sides do it so ===== -/
section T79y
variable {S : aS} {I : Nat → Nat → Int32} {L : Nat → Nat → Int64} {w1 w2 t : Nat} {a b d nl len : Nat} {cd fa fn : Nat → Nat} {W : Nat → Int32}
set_option maxRecDepth 100000
/-- a duty grows older -/
def gwS (g : (Nat → Int32) → Nat → Int32) (W : Nat → Int32) (d : Nat) : Nat → Int32 :=
  if W (23 + 6 * d + 5) = 1 then W else ud (ud W (23 + 6 * d + 2) (mn 99 (W (23 + 6 * d + 2) + 1))) (23 + 6 * d + 1) (mn 99 (W (23 + 6 * d + 1) + (if W (23 + 6 * d + 5) = 0 then g W d else 0)))
def gwF (g : (Nat → Int32) → Nat → Int32) (W : Nat → Int32) : Nat → Nat → Int32
  | 0 => W
  | n + 1 => gwS g (gwF g W n) n
def gwL (cd fa fn : Nat → Nat) (nl : Nat) (W : Nat → Int32) (d : Nat) : Int32 := sumR W cd fa fn nl d 0
def LwN (W : Nat → Int32) (nl : Nat) : Prop := nl ≤ 12 ∧ ∀ n, n < nl → Nb (nuW W n) 60
theorem sumL_nb {F ki nu : Nat → Int32} {kind : Int32} : ∀ {n : Nat}, n ≤ 12 → (∀ i, i < n → Nb (nu i) 60) → Nb (sumL F ki nu cd fa fn kind n) (60 * n) := by
  intro n
  induction n with
  | zero => exact fun _ _ => ⟨0, Nat.le_refl _, rfl⟩
  | succ n ih =>
    intro hn h
    obtain ⟨k, k1, k2⟩ := ih (by omega) fun i hi => h i (by omega)
    obtain ⟨m, m1, m2⟩ := h n (by omega)
    unfold sumL
    by_cases c : ki n = kind ∧ lineF F cd (fa n) (fn n) = true
    · rw [if_pos c, k2, m2, nI_addl]
      exact ⟨k + m, by omega, rfl⟩
    · rw [if_neg c, k2]
      exact ⟨k, by omega, rfl⟩
theorem gwL_nb (h : LwN W nl) : Nb (gwL cd fa fn nl W d) 720 := by
  obtain ⟨k, k1, k2⟩ := sumL_nb (cd := cd) (fa := fa) (fn := fn) (F := factW W d) (ki := kiW W) (nu := nuW W) (kind := 0) h.1 h.2
  exact ⟨k, by have := h.1; omega, k2⟩
theorem ud_comm {i j : Nat} {x y : Int32} (h : i ≠ j) : ud (ud W i x) j y = ud (ud W j y) i x := by
  funext k
  by_cases c1 : k = i
  · subst c1
    rw [ud_ne h, ud_at, ud_at]
  · rw [ud_ne (W := ud W j y) c1]
    by_cases c2 : k = j
    · subst c2
      rw [ud_at, ud_at]
    · rw [ud_ne c2, ud_ne c2, ud_ne c1]
/-- what holds on the way -/
def GwOk (nl : Nat) (W s : Nat → Int32) : Prop := Rg s ∧ pn s = pn W ∧ dn s = dn W ∧ LwN s nl ∧ ∀ k, (∀ d, d < 12 → k ≠ 23 + 6 * d + 1 ∧ k ≠ 23 + 6 * d + 2) → s k = W k
theorem GwOk.step {s : Nat → Int32} (h : GwOk nl W s) (hd : d < dn W) : GwOk nl W (gwS (gwL cd fa fn nl) s d) := by
  obtain ⟨hG, hp, hdn, hL, hr⟩ := h
  have h12 := hG.1.2.1
  unfold gwS
  by_cases c : s (23 + 6 * d + 5) = 1
  · rw [if_pos c]
    exact ⟨hG, hp, hdn, hL, hr⟩
  rw [if_neg c]
  obtain ⟨⟨h1, h2, h3, h4⟩, hf, hpp, hdd⟩ := id hG
  obtain ⟨b0, ⟨l, hl, el, e1⟩, ⟨ag, ha, ea⟩, b3, b4, b5⟩ := hdd d (by omega)
  have l1 : 1 ≤ l := by
    rcases l with _ | l
    · exact absurd (e1.mpr rfl) c
    · omega
  obtain ⟨g, hg, eg⟩ : ∃ g, g ≤ 720 ∧ (if s (23 + 6 * d + 5) = 0 then gwL cd fa fn nl s d else 0) = nI g := by
    by_cases c0 : s (23 + 6 * d + 5) = 0
    · rw [if_pos c0]
      exact gwL_nb hL
    · rw [if_neg c0]
      exact ⟨0, by decide, rfl⟩
  have ex : mn 99 (s (23 + 6 * d + 1) + (if s (23 + 6 * d + 5) = 0 then gwL cd fa fn nl s d else 0)) = nI (min 99 (l + g)) := by
    rw [eg, el, nI_addl, show (99 : Int32) = nI 99 from rfl, mn_nI (by decide) (by omega)]
  have ey : mn 99 (s (23 + 6 * d + 2) + 1) = nI (min 99 (ag + 1)) := by
    rw [ea, ← nI_succ, show (99 : Int32) = nI 99 from rfl, mn_nI (by decide) (by omega)]
  rw [ex, ey]
  have f : ∀ k, k ≠ 23 + 6 * d + 1 → k ≠ 23 + 6 * d + 2 → ud (ud s (23 + 6 * d + 2) (nI (min 99 (ag + 1)))) (23 + 6 * d + 1) (nI (min 99 (l + g))) k = s k := fun k k1 k2 => by rw [ud_ne k1, ud_ne k2]
  generalize hs' : ud (ud s (23 + 6 * d + 2) (nI (min 99 (ag + 1)))) (23 + 6 * d + 1) (nI (min 99 (l + g))) = s' at f
  have f1 : s' (23 + 6 * d + 1) = nI (min 99 (l + g)) := by rw [← hs', ud_at]
  have f2 : s' (23 + 6 * d + 2) = nI (min 99 (ag + 1)) := by rw [← hs', ud_ne (by omega), ud_at]
  have r : Rg s' := by
    refine Rg.of h1 h2 ((f 0 (by omega) (by omega)).trans h3) ((f 1 (by omega) (by omega)).trans h4) (hf.eq fun k z1 z2 => f k (by omega) (by omega)) (fun p z => (hpp p z).eq (f _ (by omega) (by omega)) (f _ (by omega) (by omega))) (fun e' z => ?_)
    by_cases ce : e' = d
    · subst ce
      unfold RgD
      rw [f (23 + 6 * e' + 0) (by omega) (by omega), f (23 + 6 * e' + 3) (by omega) (by omega), f (23 + 6 * e' + 4) (by omega) (by omega), f (23 + 6 * e' + 5) (by omega) (by omega), f1, f2]
      exact ⟨b0, ⟨min 99 (l + g), by omega, rfl, ⟨fun z => absurd z c, fun z => by omega⟩⟩, ⟨min 99 (ag + 1), by omega, rfl⟩, b3, b4, b5⟩
    · exact (hdd e' z).eq fun k hk => f _ (by omega) (by omega)
  refine ⟨r, ?_, ?_, ⟨hL.1, fun n hn => ?_⟩, fun k hk => (f k (hk d (by omega)).1 (hk d (by omega)).2).trans (hr k hk)⟩
  · rw [← hp]
    unfold pn
    rw [f 0 (by omega) (by omega)]
  · rw [← hdn]
    unfold dn
    rw [f 1 (by omega) (by omega)]
  · rw [show nuW s' n = nuW s n from f _ (by omega) (by omega)]
    exact hL.2 n hn
theorem GwOk.run {s : Nat → Int32} (h : GwOk nl W s) : ∀ n, n ≤ dn W → GwOk nl W (gwF (gwL cd fa fn nl) s n) := by
  intro n
  induction n with
  | zero => exact fun _ => h
  | succ n ih => exact fun hn => (ih (by omega)).step (by omega)
theorem LawR.eq {W' : Nat → Int32} (h : LawR W nl len cd fa fn) (e3 : W' 3 = W 3) (e : ∀ k, 335 ≤ k → W' k = W k) : LawR W' nl len cd fa fn := by
  obtain ⟨h1, h2, h3, h4, h5⟩ := h
  refine ⟨?_, h2, h3, fun i hi => ?_, fun n hn => ?_⟩
  · rw [e3, e 335 (Nat.le_refl _)]
    exact h1
  · rw [e _ (by omega), e _ (by omega)]
    exact h4 i hi
  · rw [e _ (by omega), e _ (by omega)]
    exact h5 n hn
theorem LawC.eq {J : Nat → Nat → Int32} (h : LawC I b nl len cd fa fn) (f : ∀ q, b ≤ q → q ≤ b + 5 → J q = I q) : LawC J b nl len cd fa fn := by
  unfold LawC
  rw [f b (by omega) (by omega), f (b + 3) (by omega) (by omega), f (b + 4) (by omega) (by omega), f (b + 5) (by omega) (by omega)]
  exact h
theorem LwS.eq {J : Nat → Nat → Int32} {W' : Nat → Int32} (h : LwS I b W nl len cd fa fn) (f : ∀ q, b ≤ q → q ≤ b + 5 → J q = I q) (e3 : W' 3 = W 3) (e : ∀ k, 335 ≤ k → W' k = W k) : LwS J b W' nl len cd fa fn := by
  obtain ⟨h1, h2, h3, h4⟩ := h
  refine ⟨LawC.eq h1 f, LawR.eq h2 e3 e, fun n hn => ?_, ?_⟩
  · rw [f (b + 1) (by omega) (by omega), f (b + 2) (by omega) (by omega), show kiW W' n = kiW W n from e _ (by omega), show nuW W' n = nuW W n from e _ (by omega)]
    exact h3 n hn
  · rw [f b (by omega) (by omega), e3]
    exact h4
theorem h_growsOlder (hG : Rg (I 421)) (hd : d < dn (I 421)) (hL : LawR (I 421) nl len cd fa fn) : Sp S m_X12_growsOlder 20 0 0 [.ref 420, .int (nI d)] (hp I L w1 w2 t) (fun v h' => v = none ∧ ∃ J, h' = hp J L w1 w2 t ∧ (∀ q, q ≠ 421 → q ≠ 428 → J q = I q) ∧ J 421 = gwS (gwL cd fa fn nl) (I 421) d) nX := by
  generalize hW : I 421 = W at hG hd hL ⊢
  have h12 := hG.1.2.1
  have h6 := hG.1.1
  refine Sp_of ok_X12_growsOlder rfl rfl ?_
  show AW S m_X12_growsOlder 20 _ _ 0 0 0 [some (.ref 420), some (.int (nI d)), none] [] (hp I L w1 w2 t)
  refine a_l0 rfl rfl rfl ?_
  refine a_l1 rfl rfl rfl ?_
  refine a_eV1 rfl lX12_246 mo_X12_isDone (sp_X12_isDone (d := d) (by omega)) rfl rfl rfl ⟨12, _, rfl, rfl, rfl⟩ rfl ?_
  rw [show vd (I 421) 5 d = W (23 + 6 * d + 5) from congrFun hW _]
  by_cases c : W (23 + 6 * d + 5) = 1
  · rw [decide_eq_true c]
    refine a_if_eq rfl (fun z => absurd z (by decide)) (fun _ => ?_)
    exact a_vret rfl rfl ⟨rfl, I, rfl, fun _ _ _ => rfl, by unfold gwS; rw [if_pos c]; exact hW⟩
  rw [decide_eq_false c]
  refine a_if_eq rfl (fun _ => ?_) (fun z => absurd rfl z)
  have fin : ∀ (K : Nat → Nat → Int32) (g : Int32), K 421 = W → (∀ q, q ≠ 421 → q ≠ 428 → K q = I q) → g = (if W (23 + 6 * d + 5) = 0 then gwL cd fa fn nl W d else 0) → AW S m_X12_growsOlder 20 (fun v h' => v = none ∧ ∃ J, h' = hp J L w1 w2 t ∧ (∀ q, q ≠ 421 → q ≠ 428 → J q = I q) ∧ J 421 = gwS (gwL cd fa fn nl) W d) nX 0 0 26 [some (.ref 420), some (.int (nI d)), none] [.int g] (hp K L w1 w2 t) := by
    intro K g eK hf hg
    refine a_s2 rfl rfl rfl rfl rfl rfl ?_
    refine a_l0 rfl rfl rfl ?_
    refine a_getq rfl gfX12_13_12 rfl (rfl) ?_
    refine a_l1 rfl rfl rfl ?_
    refine a_s rfl rfl ?_
    refine a_eS1 rfl lX12_60 mo_X12_at (sp_X12_at (d := d) (k := 2)) rfl rfl rfl rfl ?_
    refine a_s rfl rfl ?_
    refine a_l0 rfl rfl rfl ?_
    refine a_l1 rfl rfl rfl ?_
    refine a_s rfl rfl ?_
    refine a_eV1 rfl lX12_63 mo_X12_of (sp_X12_of (d := d) (k := 2) (by omega) (by decide)) rfl rfl rfl ⟨12, _, rfl, rfl, rfl⟩ rfl ?_
    refine a_top (y := W (23 + 6 * d + 2)) (congrFun eK _) ?_
    refine a_s rfl rfl ?_
    refine a_s rfl rfl ?_
    refine a_min rfl lX12_295 mj_min rfl rfl ?_
    refine a_top (y := mn 99 (W (23 + 6 * d + 2) + 1)) (rfl) ?_
    refine a_iastv (k := 23 + 6 * d + 2) rfl (n := 2033) rfl (inI_nI (by omega) (by omega)) (nI_clamp (by omega)) ?_
    refine a_l0 rfl rfl rfl ?_
    refine a_getq rfl gfX12_13_12 rfl (rfl) ?_
    refine a_l1 rfl rfl rfl ?_
    refine a_s rfl rfl ?_
    refine a_eS1 rfl lX12_60 mo_X12_at (sp_X12_at (d := d) (k := 1)) rfl rfl rfl rfl ?_
    refine a_s rfl rfl ?_
    refine a_l0 rfl rfl rfl ?_
    refine a_l1 rfl rfl rfl ?_
    refine a_s rfl rfl ?_
    refine a_eV1 rfl lX12_63 mo_X12_of (sp_X12_of (d := d) (k := 1) (by omega) (by decide)) rfl rfl rfl ⟨12, _, rfl, rfl, rfl⟩ rfl ?_
    refine a_top (y := W (23 + 6 * d + 1)) ((up2_ne (Or.inr (by omega))).trans (congrFun eK _)) ?_
    refine a_l2 rfl rfl rfl ?_
    refine a_s rfl rfl ?_
    refine a_min rfl lX12_295 mj_min rfl rfl ?_
    refine a_top (y := mn 99 (W (23 + 6 * d + 1) + g)) (rfl) ?_
    refine a_iastv (k := 23 + 6 * d + 1) rfl (n := 2033) rfl (inI_nI (by omega) (by omega)) (nI_clamp (by omega)) ?_
    exact a_vret rfl rfl ⟨rfl, _, rfl, fun q h1 h2 => by rw [up2_row h1, up2_row h1]; exact hf q h1 h2, by unfold gwS; rw [if_neg c, up2_ud, up2_ud, eK, hg]⟩
  refine a_l0 rfl rfl rfl ?_
  refine a_l1 rfl rfl rfl ?_
  refine a_eV1 rfl lX12_135 mo_X12_isWaiting (sp_X12_isWaiting (d := d) (by omega)) rfl rfl rfl ⟨12, _, rfl, rfl, rfl⟩ rfl ?_
  rw [show vd (I 421) 5 d = W (23 + 6 * d + 5) from congrFun hW _]
  by_cases c0 : W (23 + 6 * d + 5) = 0
  · rw [decide_eq_true c0]
    refine a_if_eq rfl (fun z => absurd z (by decide)) (fun _ => ?_)
    refine a_l0 rfl rfl rfl ?_
    refine a_l1 rfl rfl rfl ?_
    refine a_gV rfl lX12_351 mo_X12_growsBy (sp_X12_growsBy (nd := dn W) (np := pn W) h12 h6 hd (by rw [hW]; exact hG.so.l) (by rw [hW]; exact hG.so.o) (by rw [hW]; exact hL)) rfl rfl rfl ⟨12, _, rfl, rfl, rfl⟩ rfl (fun v' h' hv => ?_)
    obtain ⟨rfl, f, rfl⟩ := hv
    refine a_goto rfl ?_
    exact fin _ _ ((upr_row (by decide)).trans hW) (fun q h1 h2 => upr_row h2) (by rw [if_pos c0, hW]; rfl)
  · rw [decide_eq_false c0]
    refine a_if_eq rfl (fun _ => ?_) (fun z => absurd rfl z)
    refine a_s rfl rfl ?_
    exact fin I 0 hW (fun _ _ _ => rfl) (by rw [if_neg c0])
end T79y
end
section
/-! ===== a month more: the class ===== -/
section T79y2
variable {S : aS} {I : Nat → Nat → Int32} {L : Nat → Nat → Int64} {w1 w2 t : Nat} {a b d nl len : Nat} {cd fa fn : Nat → Nat} {W : Nat → Int32}
set_option maxRecDepth 100000
theorem f_passMonth (ha : stp a) (hb : lwp b) (hD : Sd I a W) (hG : Rg W) (hL : LwS I b W nl len cd fa fn) (hN : LwN W nl) : Sp S m_X5_passMonth 18 0 0 [.ref a, .ref b] (hp I L w1 w2 t) (fun v h' => v = none ∧ ∃ J, h' = hp J L w1 w2 t ∧ (∀ q, q ≠ a + 4 → q ≠ a + 5 → q ≠ b + 6 → q ≠ b + 7 → J q = I q) ∧ Sd J a (gwF (gwL cd fa fn nl) W (dn W))) nX := by
  have h12 := hG.1.2.1
  have h6 := hG.1.1
  have hab := stp_lwp a ha b hb
  have ok0 : GwOk nl W W := ⟨hG, rfl, rfl, hN, fun _ _ => rfl⟩
  refine Sp_of ok_X5_passMonth rfl rfl ?_
  show AW S m_X5_passMonth 18 _ _ 0 0 0 [some (.ref a), some (.ref b), none, none] [] (hp I L w1 w2 t)
  refine a_s rfl rfl ?_
  refine a_s2 rfl rfl rfl rfl rfl rfl ?_
  refine a_inv (n := dn W) (fun m ls h => ∃ j J, ls = [some (.ref a), some (.ref b), some (.int (nI j)), none] ∧ h = hp J L w1 w2 t ∧ j ≤ dn W ∧ m = dn W - j ∧ Sd J a (gwF (gwL cd fa fn nl) W j) ∧ ∀ q, q ≠ a + 4 → q ≠ a + 5 → q ≠ b + 6 → q ≠ b + 7 → J q = I q) ⟨0, I, rfl, rfl, Nat.zero_le _, rfl, hD, fun _ _ _ _ _ => rfl⟩ ?_
  rintro m _ _ ⟨j, J, rfl, rfl, hj, hm, hDJ, hf⟩ ih
  have okj := ok0.run (cd := cd) (fa := fa) (fn := fn) j hj
  have hdj : J a 3 = nI (dn W) := ((Sd.fd hDJ (f := 3) (g := 1) (by decide)).trans okj.1.1.2.2.2).trans (by rw [okj.2.2.1])
  refine a_l2 rfl rfl rfl ?_
  refine a_l0 rfl rfl rfl ?_
  refine a_getiv (v := nI (dn W)) rfl gfX5_63_5 (kS0 ha) hdj ?_
  refine a_ic_ge rfl (fun c => ?_) (fun c => ?_)
  · have hge := nI_ge_of c (by omega) (by omega)
    obtain rfl : j = dn W := by omega
    exact a_vret rfl rfl ⟨rfl, J, rfl, hf, hDJ⟩
  have hjn := nI_lt_of c (by omega) (by omega)
  have es : gwF (gwL cd fa fn nl) W (j + 1) = gwS (gwL cd fa fn nl) (gwF (gwL cd fa fn nl) W j) j := rfl
  have hLj : LwS J b (gwF (gwL cd fa fn nl) W j) nl len cd fa fn := LwS.eq hL (fun q g1 g2 => hf q (by omega) (by omega) (by omega) (by omega)) (okj.2.2.2.2 3 (fun d hd => by omega)) (fun k hk => okj.2.2.2.2 k (fun d hd => by omega))
  -- the loop goes on
  have on : ∀ (K : Nat → Nat → Int32) (v : Option Value), Sd K a (gwF (gwL cd fa fn nl) W (j + 1)) → (∀ q, q ≠ a + 4 → q ≠ a + 5 → q ≠ b + 6 → q ≠ b + 7 → K q = I q) → AW S m_X5_passMonth 18 (fun v h' => v = none ∧ ∃ J, h' = hp J L w1 w2 t ∧ (∀ q, q ≠ a + 4 → q ≠ a + 5 → q ≠ b + 6 → q ≠ b + 7 → J q = I q) ∧ Sd J a (gwF (gwL cd fa fn nl) W (dn W))) nX 0 0 65 [some (.ref a), some (.ref b), some (.int (nI j)), v] [] (hp K L w1 w2 t) := by
    intro K v hK hfK
    refine a_iv2 (y := nI (j + 1)) rfl rfl rfl ((nI_succ j).symm) ?_
    refine a_goto rfl ?_
    exact a_less (ih (dn W - (j + 1)) _ _ (by omega) ⟨j + 1, K, rfl, rfl, by omega, rfl, hK, hfK⟩) ⟨rfl, rfl, rfl, trivial⟩
  generalize hsj : gwF (gwL cd fa fn nl) W j = sj at hDJ okj es hLj on ⊢
  have nj : dn sj = dn W := okj.2.2.1
  have row : ∀ k, k < 6 → J (a + 3 + k) j = sj (23 + 6 * j + k) := fun k hk => hDJ.2.2 j (by omega) k hk
  obtain ⟨-, ⟨l, hl, el, e1⟩, -⟩ := okj.1.2.2.2 j (by omega)
  -- behind the hours: perhaps older
  have k48 : ∀ (K : Nat → Nat → Int32) (x : Int32) (v : Option Value), Sd K a (ud sj (23 + 6 * j + 1) x) → (∀ q, q ≠ a + 4 → q ≠ a + 5 → q ≠ b + 6 → q ≠ b + 7 → K q = I q) → (¬ sj (23 + 6 * j + 5) = 1 → x = mn 99 (sj (23 + 6 * j + 1) + (if sj (23 + 6 * j + 5) = 0 then gwL cd fa fn nl sj j else 0))) → (sj (23 + 6 * j + 5) = 1 → x = sj (23 + 6 * j + 1)) → AW S m_X5_passMonth 18 (fun v h' => v = none ∧ ∃ J, h' = hp J L w1 w2 t ∧ (∀ q, q ≠ a + 4 → q ≠ a + 5 → q ≠ b + 6 → q ≠ b + 7 → J q = I q) ∧ Sd J a (gwF (gwL cd fa fn nl) W (dn W))) nX 0 0 48 [some (.ref a), some (.ref b), some (.int (nI j)), v] [] (hp K L w1 w2 t) := by
    intro K x v hK hfK hx hx1
    refine a_l0 rfl rfl rfl ?_
    refine a_getq rfl gfX5_33_5 (kS0 ha) (rS9 ha) ?_
    refine a_l2 rfl rfl rfl ?_
    refine a_eSN1 rfl lX5_86 mo_X11_at (sp_X11_at (kS8 ha)) rfl rfl rfl rfl ?_
    refine a_top (y := sj (23 + 6 * j + 5)) ((atF_nI (show j < 12 by omega) (by decide)).trans ((hK.2.2 j (by omega) 5 (by decide)).trans (ud_ne (by omega)))) ?_
    refine a_s rfl rfl ?_
    refine a_ic_eq rfl (fun c1 => ?_) (fun c1 => ?_)
    · refine on K v ?_ hfK
      rw [es]
      unfold gwS
      rw [if_pos c1]
      rw [hx1 c1, ud_same] at hK
      exact hK
    refine a_l0 rfl rfl rfl ?_
    refine a_l2 rfl rfl rfl ?_
    refine a_eV0 rfl lX5_163 mo_X5_growOlder (sp_X5_growOlder ha) rfl rfl rfl ⟨5, _, kS0 ha, rfl, rfl⟩ rfl ?_
    have e2 : K (a + 5) j = sj (23 + 6 * j + 2) := (hK.2.2 j (by omega) 2 (by decide)).trans (ud_ne (by omega))
    have eg : growF K a (nI j) = up2 K (a + 5) j (mn 99 (sj (23 + 6 * j + 2) + 1)) := by
      unfold growF
      rw [setF_nI (show j < 12 by omega) (by decide), atF_nI (show j < 12 by omega) (by decide), e2]
      rfl
    rw [eg]
    refine on _ v ?_ (fun q h4 h5 h6 h7 => by rw [up2_row h5]; exact hfK q h4 h5 h6 h7)
    rw [es]
    unfold gwS
    rw [if_neg c1, ud_comm (show 23 + 6 * j + 2 ≠ 23 + 6 * j + 1 by omega), ← hx c1]
    exact Sd.ro (k := 2) hK (by omega) (by decide)
  refine a_l0 rfl rfl rfl ?_
  refine a_l2 rfl rfl rfl ?_
  refine a_eV1 rfl lX5_90 mo_X5_isWaiting (sp_X5_isWaiting (nd := dn W) ha hdj h12) rfl rfl rfl ⟨5, _, kS0 ha, rfl, rfl⟩ rfl ?_
  rw [show waitF (dn W) (J (a + 8)) (nI j) = decide (sj (23 + 6 * j + 5) = 0) by rw [waitF_nI hjn h12]; congr 1; rw [show J (a + 8) j = sj (23 + 6 * j + 5) from row 5 (by decide)]]
  by_cases c0 : sj (23 + 6 * j + 5) = 0
  rotate_left
  · rw [decide_eq_false c0]
    refine a_if_eq rfl (fun _ => ?_) (fun z => absurd rfl z)
    refine k48 J (sj (23 + 6 * j + 1)) none (by rw [ud_same]; exact hDJ) hf (fun _ => ?_) (fun _ => rfl)
    rw [if_neg c0, el, show nI l + 0 = nI (l + 0) from nI_addl l 0, show (99 : Int32) = nI 99 from rfl, mn_nI (by decide) (by omega)]
    congr 1
    omega
  rw [decide_eq_true c0]
  refine a_if_eq rfl (fun z => absurd z (by decide)) (fun _ => ?_)
  refine a_l0 rfl rfl rfl ?_
  refine a_getq rfl gfX5_21_5 (kS0 ha) (rS5 ha) ?_
  refine a_l2 rfl rfl rfl ?_
  refine a_eSN1 rfl lX5_86 mo_X11_at (sp_X11_at (kS4 ha)) rfl rfl rfl rfl ?_
  refine a_top (y := sj (23 + 6 * j + 1)) ((atF_nI (show j < 12 by omega) (by decide)).trans (row 1 (by decide))) ?_
  refine a_l1 rfl rfl rfl ?_
  refine a_l0 rfl rfl rfl ?_
  refine a_l2 rfl rfl rfl ?_
  refine a_gV rfl lX5_157 mo_X2_growthOf (sp_X2_growthOf (d := j) ha hb (by omega) hLj.1) rfl rfl rfl ⟨2, _, kW0 hb, rfl, rfl⟩ rfl (fun v' h' hv => ?_)
  obtain ⟨rfl, K, rfl, hfK⟩ := hv
  refine a_top (y := gwL cd fa fn nl sj j) (grow_same hDJ okj.1 hLj (by rw [nj]; exact hjn)) ?_
  refine a_s rfl rfl ?_
  refine a_s3 rfl rfl rfl rfl rfl rfl ?_
  refine a_l0 rfl rfl rfl ?_
  refine a_getq rfl gfX5_21_5 (kS0 ha) (rS5 ha) ?_
  refine a_l2 rfl rfl rfl ?_
  refine a_s rfl rfl ?_
  refine a_l3 rfl rfl rfl ?_
  refine a_min rfl lX5_127 mj_min rfl rfl ?_
  refine a_top (y := mn 99 (sj (23 + 6 * j + 1) + gwL cd fa fn nl sj j)) (rfl) ?_
  refine a_eSN0 rfl lX5_82 mo_X11_setAt (sp_X11_setAt (kS4 ha)) rfl rfl rfl rfl ?_
  rw [setF_nI (show j < 12 by omega) (by decide)]
  have DK : Sd K a sj := Sd.eq hDJ fun q g1 g2 => hfK q (by omega) (by omega)
  exact k48 _ _ _ (Sd.ro (k := 1) DK (by omega) (by decide)) (fun q h4 h5 h6 h7 => by rw [up2_row h4, hfK q h6 h7]; exact hf q h4 h5 h6 h7) (fun _ => by rw [if_pos c0]) (fun z => by rw [c0] at z; exact absurd z (by decide))
end T79y2
end
section
/-! ===== a day more, on the row; the class does it so ===== -/
section T79z
variable {S : aS} {I : Nat → Nat → Int32} {L : Nat → Nat → Int64} {w1 w2 t : Nat} {a b d nl len : Nat} {cd fa fn : Nat → Nat} {W : Nat → Int32} {taken had : Int32}
set_option maxRecDepth 100000
def rm100 (x : Int32) : Int32 := x - x / 100 * 100
abbrev PsT : Type := (Nat → Int32) × Int32
/-- a person's turn; calm: without draws -/
def psW (calm : Bool) (W : Nat → Int32) : Nat → Int32 := if calm = true then W else ud W 10 (seedF (W 10))
def psS (calm : Bool) (s : PsT) (p : Nat) : PsT :=
  if calm = false ∧ rm100 (drawV (seedF (s.1 10))) < s.1 6 then (psW calm s.1, s.2)
  else ((wdF (nI p) s.2 (psW calm s.1, psW calm s.1 (11 + 2 * p + 1), 0) (dn (psW calm s.1))).1, s.2 ||| (wdF (nI p) s.2 (psW calm s.1, psW calm s.1 (11 + 2 * p + 1), 0) (dn (psW calm s.1))).2.2)
def psF (calm : Bool) (W : Nat → Int32) : Nat → PsT
  | 0 => (W, 0)
  | n + 1 => psS calm (psF calm W n) n
def nwD (g : (Nat → Int32) → Nat → Int32) (W : Nat → Int32) : Nat → Int32 := if 30 < W 4 + 1 then gwF g (ud (ud (ud W 4 (W 4 + 1)) 4 1) 5 (mn 9999 (W 5 + 1))) (dn W) else ud W 4 (W 4 + 1)
def dayW (calm : Bool) (g : (Nat → Int32) → Nat → Int32) (W : Nat → Int32) : Nat → Int32 := nwD g (psF calm W (pn W)).1
/-- ranges, and what a day never changes -/
def DyOk (nl : Nat) (W s : Nat → Int32) : Prop := Rg s ∧ pn s = pn W ∧ dn s = dn W ∧ LwN s nl ∧ s 3 = W 3 ∧ ∀ k, 335 ≤ k → s k = W k
theorem LwN.eq {s : Nat → Int32} (h : LwN W nl) (e : ∀ k, 335 ≤ k → s k = W k) : LwN s nl := ⟨h.1, fun n hn => by
  rw [show nuW s n = nuW W n from e _ (by omega)]
  exact h.2 n hn⟩
theorem Rg.hi (h : Rg W) {k : Nat} {v : Int32} (hk : k = 10) : Rg (ud W k v) ∧ pn (ud W k v) = pn W ∧ dn (ud W k v) = dn W := by
  subst hk
  obtain ⟨⟨h1, h2, h3, h4⟩, hf, hp, hdd⟩ := h
  have f : ∀ j, j ≠ 10 → ud W 10 v j = W j := fun j hj => ud_ne hj
  exact ⟨Rg.of h1 h2 ((f 0 (by omega)).trans h3) ((f 1 (by omega)).trans h4) (hf.eq fun k z1 z2 => f k (by omega)) (fun p z => (hp p z).eq (f _ (by omega)) (f _ (by omega))) (fun e' z => (hdd e' z).eq fun k hk => f _ (by omega)), by unfold pn; rw [f 0 (by omega)], by unfold dn; rw [f 1 (by omega)]⟩
theorem psW_ok {calm : Bool} {s : Nat → Int32} (h : DyOk nl W s) : DyOk nl W (psW calm s) := by
  unfold psW
  by_cases c : calm = true
  · rw [if_pos c]
    exact h
  rw [if_neg c]
  obtain ⟨hG, hp, hd, hL, h3, hk⟩ := h
  obtain ⟨g1, g2, g3⟩ := Rg.hi (v := seedF (s 10)) hG rfl
  exact ⟨g1, g2.trans hp, g3.trans hd, LwN.eq hL fun k hk => ud_ne (by omega), (ud_ne (by omega)).trans h3, fun k z => (ud_ne (by omega)).trans (hk k z)⟩
theorem wd_ok {s : Nat → Int32} {p : Nat} (h : DyOk nl W s) (hp : p < pn W) : DyOk nl W (wdF (nI p) taken (s, s (11 + 2 * p + 1), 0) (dn s)).1 := by
  obtain ⟨hG, hpn, hd, hL, h3, hk⟩ := h
  obtain ⟨g1, g2, g3, -, g5⟩ := WdOk.run (p := nI p) (taken := taken) (W := s) (s := (s, s (11 + 2 * p + 1), 0)) ⟨hG, rfl, rfl, (hG.2.2.1 p (by omega)).2, fun _ _ => rfl⟩ (dn s) (Nat.le_refl _)
  exact ⟨g1, g2.trans hpn, g3.trans hd, LwN.eq hL fun k hk => g5 k (fun d hd => by omega), (g5 3 (fun d hd => by omega)).trans h3, fun k z => (g5 k (fun d hd => by omega)).trans (hk k z)⟩
theorem psF_ok {calm : Bool} (h : DyOk nl W W) : ∀ n, n ≤ pn W → DyOk nl W (psF calm W n).1 := by
  intro n
  induction n with
  | zero => exact fun _ => h
  | succ n ih =>
    intro hn
    have ih := ih (by omega)
    show DyOk nl W (psS calm (psF calm W n) n).1
    unfold psS
    by_cases c : calm = false ∧ rm100 (drawV (seedF ((psF calm W n).1 10))) < (psF calm W n).1 6
    · rw [if_pos c]
      exact psW_ok ih
    · rw [if_neg c]
      exact wd_ok (psW_ok ih) (by omega)
theorem Rg.day (h : Rg W) {x y : Nat} (hx1 : 1 ≤ x) (hx : x ≤ 30) (hy : y ≤ 9999) {W' : Nat → Int32} (e4 : W' 4 = nI x) (e5 : W' 5 = nI y) (f : ∀ k, k ≠ 4 → k ≠ 5 → W' k = W k) : Rg W' ∧ pn W' = pn W ∧ dn W' = dn W := by
  obtain ⟨⟨h1, h2, h3, h4⟩, ⟨f2, f4, f5, f6, f7, f8⟩, hp, hdd⟩ := h
  refine ⟨Rg.of h1 h2 ((f 0 (by omega) (by omega)).trans h3) ((f 1 (by omega) (by omega)).trans h4) ?_ (fun p z => (hp p z).eq (f _ (by omega) (by omega)) (f _ (by omega) (by omega))) (fun e' z => (hdd e' z).eq fun k hk => f _ (by omega) (by omega)), by unfold pn; rw [f 0 (by omega) (by omega)], by unfold dn; rw [f 1 (by omega) (by omega)]⟩
  unfold RgF
  rw [f 2 (by decide) (by decide), e4, e5, f 6 (by decide) (by decide), f 7 (by decide) (by decide), f 8 (by decide) (by decide)]
  exact ⟨f2, ⟨x, hx1, hx, rfl⟩, ⟨y, hy, rfl⟩, f6, f7, f8⟩
theorem mth_ok {s : Nat → Int32} (h : DyOk nl W s) : DyOk nl W (ud (ud (ud s 4 (s 4 + 1)) 4 1) 5 (mn 9999 (s 5 + 1))) := by
  obtain ⟨hG, hp, hd, hL, h3, hk⟩ := h
  obtain ⟨m, m1, m2⟩ := hG.2.1.2.2.1
  have f : ∀ k, k ≠ 4 → k ≠ 5 → ud (ud (ud s 4 (s 4 + 1)) 4 1) 5 (mn 9999 (s 5 + 1)) k = s k := fun k k4 k5 => by rw [ud_ne k5, ud_ne k4, ud_ne k4]
  obtain ⟨g1, g2, g3⟩ := Rg.day (x := 1) (y := min 9999 (m + 1)) hG (by decide) (by decide) (by omega) (by rw [ud_ne (by decide), ud_at]; rfl) (by rw [ud_at, m2, ← nI_succ, show (9999 : Int32) = nI 9999 from rfl, mn_nI (by decide) (by omega)]) f
  exact ⟨g1, g2.trans hp, g3.trans hd, LwN.eq hL fun k hk => f k (by omega) (by omega), (f 3 (by decide) (by decide)).trans h3, fun k z => (f k (by omega) (by omega)).trans (hk k z)⟩
theorem nwD_ok {s : Nat → Int32} (h : DyOk nl W s) : DyOk nl W (nwD (gwL cd fa fn nl) s) := by
  unfold nwD
  by_cases c : 30 < s 4 + 1
  · rw [if_pos c]
    obtain ⟨hG, hp, hd, hL, h3, hk⟩ := mth_ok h
    obtain ⟨g1, g2, g3, g4, g5⟩ := GwOk.run (cd := cd) (fa := fa) (fn := fn) (nl := nl) ⟨hG, rfl, rfl, hL, fun _ _ => rfl⟩ (dn s) (by rw [hd, h.2.2.1]; exact Nat.le_refl _)
    exact ⟨g1, g2.trans hp, g3.trans hd, g4, (g5 3 (fun d hd => by omega)).trans h3, fun k z => (g5 k (fun d hd => by omega)).trans (hk k z)⟩
  · rw [if_neg c]
    obtain ⟨hG, hp, hd, hL, h3, hk⟩ := h
    obtain ⟨x, x1, x2, x3⟩ := hG.2.1.2.1
    obtain ⟨m, m1, m2⟩ := hG.2.1.2.2.1
    have f : ∀ k, k ≠ 4 → k ≠ 5 → ud s 4 (s 4 + 1) k = s k := fun k k4 k5 => ud_ne k4
    have x30 : x + 1 ≤ 30 := by
      have c := Int32.not_lt.mp c
      rw [x3, ← nI_succ, Int32.le_iff_toInt_le, nI_toInt (by omega)] at c
      have c : ((x + 1 : Nat) : Int) ≤ 30 := c
      omega
    obtain ⟨g1, g2, g3⟩ := Rg.day (x := x + 1) (y := m) hG (by omega) x30 m1 (by rw [ud_at, x3, ← nI_succ]) (by rw [ud_ne (by decide)]; exact m2) f
    exact ⟨g1, g2.trans hp, g3.trans hd, LwN.eq hL fun k hk => f k (by omega) (by omega), (f 3 (by decide) (by decide)).trans h3, fun k z => (f k (by omega) (by omega)).trans (hk k z)⟩
theorem dayW_ok {calm : Bool} (h : DyOk nl W W) : DyOk nl W (dayW calm (gwL cd fa fn nl) W) := nwD_ok (psF_ok h _ (Nat.le_refl _))
theorem f_passDay (ha : stp a) (hb : lwp b) (hD : Sd I a W) (hG : Rg W) (hL : LwS I b W nl len cd fa fn) (hN : LwN W nl) {dr : Bool} : Sp S m_X5_passDay 19 0 0 [.ref a, .ref b, .int (bI dr)] (hp I L w1 w2 t) (fun v h' => v = none ∧ ∃ J, h' = hp J L w1 w2 t ∧ (∀ q, (q < a ∨ a + 8 < q) → q ≠ b + 6 → q ≠ b + 7 → J q = I q) ∧ Sd J a (dayW (!dr) (gwL cd fa fn nl) W)) nX := by
  have h12 := hG.1.2.1
  have h6 := hG.1.1
  have hab := stp_lwp a ha b hb
  have ok0 : DyOk nl W W := ⟨hG, rfl, rfl, hN, rfl, fun _ _ => rfl⟩
  refine Sp_of ok_X5_passDay rfl rfl ?_
  show AW S m_X5_passDay 19 _ _ 0 0 0 [some (.ref a), some (.ref b), some (.int (bI dr)), none, none, none] [] (hp I L w1 w2 t)
  refine a_s rfl rfl ?_
  refine a_s3 rfl rfl rfl rfl rfl rfl ?_
  refine a_s rfl rfl ?_
  refine a_s4 rfl rfl rfl rfl rfl rfl ?_
  refine a_inv (n := pn W) (fun m ls h => ∃ j J, ls = [some (.ref a), some (.ref b), some (.int (bI dr)), some (.int (psF (!dr) W j).2), some (.int (nI j)), none] ∧ h = hp J L w1 w2 t ∧ j ≤ pn W ∧ m = pn W - j ∧ Sd J a (psF (!dr) W j).1 ∧ ∀ q, (q < a ∨ a + 8 < q) → q ≠ b + 6 → q ≠ b + 7 → J q = I q) ⟨0, I, rfl, rfl, Nat.zero_le _, rfl, hD, fun _ _ _ _ => rfl⟩ ?_
  rintro m _ _ ⟨j, J, rfl, rfl, hj, hm, hDJ, hf⟩ ih
  have okj := psF_ok (calm := !dr) ok0 j hj
  have hpj : J a 0 = nI (pn W) := ((Sd.fd hDJ (f := 0) (g := 0) (by decide)).trans okj.1.1.2.2.1).trans (by rw [okj.2.1])
  refine a_l4 rfl rfl rfl ?_
  refine a_l0 rfl rfl rfl ?_
  refine a_getiv (v := nI (pn W)) rfl gfX5_56_5 (kS0 ha) hpj ?_
  refine a_ic_ge rfl (fun c => ?_) (fun c => ?_)
  · have hge := nI_ge_of c (by omega) (by omega)
    obtain rfl : j = pn W := by omega
    show AW S m_X5_passDay 19 (fun v h' => v = none ∧ ∃ J, h' = hp J L w1 w2 t ∧ (∀ q, (q < a ∨ a + 8 < q) → q ≠ b + 6 → q ≠ b + 7 → J q = I q) ∧ Sd J a (nwD (gwL cd fa fn nl) (psF (!dr) W (pn W)).1)) nX 0 0 60 _ _ _
    generalize psF (!dr) W (pn W) = sj at hDJ okj
    have e4 : J a 10 = sj.1 4 := Sd.fd hDJ (by decide)
    have e5 : J a 11 = sj.1 5 := Sd.fd hDJ (by decide)
    refine a_l0 rfl rfl rfl ?_
    refine a_s rfl rfl ?_
    refine a_getiv (v := sj.1 4) rfl gfX5_36_5 (kS0 ha) e4 ?_
    refine a_s rfl rfl ?_
    refine a_s rfl rfl ?_
    refine a_puti rfl pfX5_36_5 (kS0 ha) ?_
    have D1 : Sd (up2 J a 10 (sj.1 4 + 1)) a (ud sj.1 4 (sj.1 4 + 1)) := Sd.pu hDJ (by decide)
    refine a_l0 rfl rfl rfl ?_
    refine a_getiv (v := sj.1 4 + 1) rfl gfX5_36_5 (kS0 ha) up2_at ?_
    refine a_s rfl rfl ?_
    refine a_ic_le rfl (fun c2 => ?_) (fun c2 => ?_)
    · refine a_vret rfl rfl ⟨rfl, _, rfl, fun q g1 g2 g3 => by rw [up2_row (by omega)]; exact hf q g1 g2 g3, ?_⟩
      unfold nwD
      rw [if_neg (Int32.not_lt.mpr c2)]
      exact D1
    refine a_l0 rfl rfl rfl ?_
    refine a_s rfl rfl ?_
    refine a_puti rfl pfX5_36_5 (kS0 ha) ?_
    refine a_l0 rfl rfl rfl ?_
    refine a_s rfl rfl ?_
    refine a_l0 rfl rfl rfl ?_
    refine a_getiv (v := sj.1 5) rfl gfX5_66_5 (kS0 ha) ((up2_ne (Or.inr (by decide))).trans ((up2_ne (Or.inr (by decide))).trans e5)) ?_
    refine a_s rfl rfl ?_
    refine a_s rfl rfl ?_
    refine a_min rfl lX5_127 mj_min rfl rfl ?_
    refine a_top (y := mn 9999 (sj.1 5 + 1)) (rfl) ?_
    refine a_puti rfl pfX5_66_5 (kS0 ha) ?_
    have D3 : Sd (up2 (up2 (up2 J a 10 (sj.1 4 + 1)) a 10 1) a 11 (mn 9999 (sj.1 5 + 1))) a (ud (ud (ud sj.1 4 (sj.1 4 + 1)) 4 1) 5 (mn 9999 (sj.1 5 + 1))) := Sd.pu (Sd.pu D1 (by decide)) (by decide)
    have ok3 := mth_ok okj
    refine a_l0 rfl rfl rfl ?_
    refine a_l1 rfl rfl rfl ?_
    refine a_gV rfl lX5_140 mo_X5_passMonth (f_passMonth ha hb D3 ok3.1 (LwS.eq hL (fun q g1 g2 => by rw [up2_row (by omega), up2_row (by omega), up2_row (by omega)]; exact hf q (by omega) (by omega) (by omega)) ok3.2.2.2.2.1 ok3.2.2.2.2.2) ok3.2.2.2.1) rfl rfl rfl ⟨5, _, kS0 ha, rfl, rfl⟩ rfl (fun v' h' hv => ?_)
    obtain ⟨rfl, K, rfl, hfK, hDK⟩ := hv
    refine a_vret rfl rfl ⟨rfl, K, rfl, fun q g1 g2 g3 => by rw [hfK q (by omega) (by omega) g2 g3, up2_row (by omega), up2_row (by omega), up2_row (by omega)]; exact hf q g1 g2 g3, ?_⟩
    unfold nwD
    rw [if_pos (Int32.not_le.mp c2)]
    rw [ok3.2.2.1, ← okj.2.2.1] at hDK
    exact hDK
  have hjn := nI_lt_of c (by omega) (by omega)
  have es : psF (!dr) W (j + 1) = psS (!dr) (psF (!dr) W j) j := rfl
  -- the loop goes on
  have on : ∀ (K : Nat → Nat → Int32) (v : Option Value), Sd K a (psF (!dr) W (j + 1)).1 → (∀ q, (q < a ∨ a + 8 < q) → q ≠ b + 6 → q ≠ b + 7 → K q = I q) → AW S m_X5_passDay 19 (fun v h' => v = none ∧ ∃ J, h' = hp J L w1 w2 t ∧ (∀ q, (q < a ∨ a + 8 < q) → q ≠ b + 6 → q ≠ b + 7 → J q = I q) ∧ Sd J a (dayW (!dr) (gwL cd fa fn nl) W)) nX 0 0 54 [some (.ref a), some (.ref b), some (.int (bI dr)), some (.int (psF (!dr) W (j + 1)).2), some (.int (nI j)), v] [] (hp K L w1 w2 t) := by
    intro K v hK hfK
    refine a_iv4 (y := nI (j + 1)) rfl rfl rfl ((nI_succ j).symm) ?_
    refine a_goto rfl ?_
    exact a_less (ih (pn W - (j + 1)) _ _ (by omega) ⟨j + 1, K, rfl, rfl, by omega, rfl, hK, hfK⟩) ⟨rfl, rfl, rfl, rfl, rfl, trivial⟩
  generalize hsj : psF (!dr) W j = sj at hDJ okj es on ⊢
  have okw := psW_ok (calm := !dr) okj
  -- it works
  have wk : ∀ (K : Nat → Nat → Int32), Sd K a (psW (!dr) sj.1) → (∀ q, (q < a ∨ a + 8 < q) → q ≠ b + 6 → q ≠ b + 7 → K q = I q) → ¬ ((!dr) = false ∧ rm100 (drawV (seedF (sj.1 10))) < sj.1 6) → AW S m_X5_passDay 19 (fun v h' => v = none ∧ ∃ J, h' = hp J L w1 w2 t ∧ (∀ q, (q < a ∨ a + 8 < q) → q ≠ b + 6 → q ≠ b + 7 → J q = I q) ∧ Sd J a (dayW (!dr) (gwL cd fa fn nl) W)) nX 0 0 36 [some (.ref a), some (.ref b), some (.int (bI dr)), some (.int sj.2), some (.int (nI j)), none] [] (hp K L w1 w2 t) := by
    intro K hK hfK hc
    refine a_s rfl rfl ?_
    refine a_s5 rfl rfl rfl rfl rfl rfl ?_
    refine a_l5 rfl rfl rfl ?_
    refine a_if_ne rfl (fun z => absurd rfl z) (fun _ => ?_)
    refine a_l3 rfl rfl rfl ?_
    refine a_l0 rfl rfl rfl ?_
    refine a_l4 rfl rfl rfl ?_
    refine a_l3 rfl rfl rfl ?_
    refine a_gV rfl lX5_137 mo_X5_work (f_work (taken := sj.2) ha hK okw.1 (by rw [okw.2.1]; exact hjn)) rfl rfl rfl ⟨5, _, kS0 ha, rfl, rfl⟩ rfl (fun v' h' hv => ?_)
    obtain ⟨rfl, K2, rfl, hfK2, hDK2⟩ := hv
    rw [show psF (!dr) W (j + 1) = ((wdF (nI j) sj.2 (psW (!dr) sj.1, psW (!dr) sj.1 (11 + 2 * j + 1), 0) (dn (psW (!dr) sj.1))).1, sj.2 ||| (wdF (nI j) sj.2 (psW (!dr) sj.1, psW (!dr) sj.1 (11 + 2 * j + 1), 0) (dn (psW (!dr) sj.1))).2.2) from es.trans (if_neg hc)] at on
    refine a_s rfl rfl ?_
    refine a_s3 rfl rfl rfl rfl rfl rfl ?_
    exact on K2 _ hDK2 (fun q g1 g2 g3 => (hfK2 q (by omega) (by omega)).trans (hfK q g1 g2 g3))
  refine a_l2 rfl rfl rfl ?_
  cases dr with
  | false =>
    refine a_if_eq rfl (fun _ => ?_) (fun z => absurd rfl z)
    exact wk J hDJ hf (fun z => by cases z.1)
  | true =>
    refine a_if_eq rfl (fun z => absurd z (by decide)) (fun _ => ?_)
    refine a_l0 rfl rfl rfl ?_
    refine a_eV1 rfl lX5_133 mo_X5_draw (sp_X5_draw ha) rfl rfl rfl ⟨5, _, kS0 ha, rfl, rfl⟩ rfl ?_
    have e15 : J a 15 = sj.1 10 := Sd.fd hDJ (by decide)
    rw [e15]
    have DK : Sd (up2 J a 15 (seedF (sj.1 10))) a (psW (!true) sj.1) := Sd.pu hDJ (by decide)
    have hfK : ∀ q, (q < a ∨ a + 8 < q) → q ≠ b + 6 → q ≠ b + 7 → up2 J a 15 (seedF (sj.1 10)) q = I q := fun q g1 g2 g3 => by rw [up2_row (by omega)]; exact hf q g1 g2 g3
    refine a_s rfl rfl ?_
    refine a_irem rfl (by decide) ?_
    refine a_top (y := rm100 (drawV (seedF (sj.1 10)))) (rfl) ?_
    refine a_l0 rfl rfl rfl ?_
    refine a_getiv (v := sj.1 6) rfl gfX5_69_5 (kS0 ha) ((up2_ne (Or.inr (by decide))).trans (Sd.fd hDJ (by decide))) ?_
    refine a_ic_ge rfl (fun c2 => ?_) (fun c2 => ?_)
    · exact wk _ DK hfK (fun z => absurd z.2 (Int32.not_lt.mpr c2))
    · refine a_s rfl rfl ?_
      refine a_goto rfl ?_
      refine a_s5 rfl rfl rfl rfl rfl rfl ?_
      refine a_l5 rfl rfl rfl ?_
      refine a_if_ne rfl (fun _ => ?_) (fun z => absurd z (by decide))
      rw [show psF (!true) W (j + 1) = (psW (!true) sj.1, sj.2) from es.trans (if_pos ⟨rfl, Int32.not_le.mp c2⟩)] at on
      exact on _ _ DK hfK
end T79z
end
section
/-! ===== a day more: the reference, but for the parade ===== -/
section T79za
variable {S : aS} {I : Nat → Nat → Int32} {L : Nat → Nat → Int64} {w1 w2 t : Nat} {nl len : Nat} {cd fa fn : Nat → Nat} {W : Nat → Int32} {taken had : Int32}
set_option maxRecDepth 100000
theorem bt_32767 : ∀ i, i < 32 → bt 32767 i = decide (i < 15) := by decide +kernel
theorem dr_same {s : Int32} : (s >>> ((16 : Int32) &&& 31)) &&& 32767 = drawV s := by
  unfold drawV
  refine b_ext fun i hi => ?_
  rw [b_and, b_and, bt_32767 i hi]
  by_cases c : i < 15
  · rw [show ((16 : Int32) &&& 31) = (nI 16 &&& 31) from rfl, b_sshr 16 (by decide) s hi, if_pos (by omega), show ((16 : Int32).toUInt32 &&& Int32.toUInt32 31) = ((nI 16).toUInt32 &&& Int32.toUInt32 31) from rfl, b_ushr 16 (by decide) s i]
  · rw [decide_eq_false c, Bool.and_false, Bool.and_false]
theorem sd_same {s : Int32} : (1103515245 : Int32) * s + 12345 = seedF s := by
  unfold seedF
  rw [Int32.mul_comm]
theorem h_drawn : SpE S m_X12_drawn 12 [.ref 420, .int 100] (hp I L w1 w2 t) (some (.int (rm100 (drawV (seedF (I 421 10)))))) (hp (up2 I 421 10 (seedF (I 421 10))) L w1 w2 t) := by
  refine SpE_of ok_X12_drawn rfl rfl ?_
  show AW S m_X12_drawn 12 _ _ 0 0 0 [some (.ref 420), some (.int 100)] [] (hp I L w1 w2 t)
  refine a_l0 rfl rfl rfl ?_
  refine a_getq rfl gfX12_13_12 rfl (rfl) ?_
  refine a_s rfl rfl ?_
  refine a_ldc rfl kX12_77 ?_
  refine a_l0 rfl rfl rfl ?_
  refine a_getq rfl gfX12_13_12 rfl (rfl) ?_
  refine a_s rfl rfl ?_
  refine a_ialdv (v := I 421 10) rfl (n := 2033) rfl ⟨by decide, by decide⟩ rfl ?_
  refine a_s rfl rfl ?_
  refine a_s rfl rfl ?_
  refine a_s rfl rfl ?_
  refine a_top (y := seedF (I 421 10)) (sd_same) ?_
  refine a_iastv (k := 10) rfl (n := 2033) rfl ⟨by decide, by decide⟩ rfl ?_
  refine a_l0 rfl rfl rfl ?_
  refine a_getq rfl gfX12_13_12 rfl (rfl) ?_
  refine a_s rfl rfl ?_
  refine a_ialdv (v := seedF (I 421 10)) rfl (n := 2033) rfl ⟨by decide, by decide⟩ up2_at ?_
  refine a_s rfl rfl ?_
  refine a_s rfl rfl ?_
  refine a_s rfl rfl ?_
  refine a_s rfl rfl ?_
  refine a_top (y := drawV (seedF (I 421 10))) (dr_same) ?_
  refine a_l1 rfl rfl rfl ?_
  refine a_irem rfl (by decide) ?_
  exact a_iret rfl rfl ⟨rfl, rfl⟩
theorem HHd.nx {H : Nat → Int32} {p : Nat} (h : HHd H taken had p) : HHd H (taken ||| had) 0 (p + 1) := fun k hk => by
  obtain ⟨g1, g2, g3⟩ := h k hk
  rw [hasF_or (show k < 31 by omega), hasF_0 (show k < 31 by omega)]
  refine ⟨fun z => ?_, fun _ z => (by cases z), fun z _ => ?_⟩
  · cases ht : hasF taken (nI k) with
    | true =>
      obtain ⟨q, q1, q2⟩ := g1 ht
      exact ⟨q, by omega, q2⟩
    | false =>
      rw [ht, Bool.false_or] at z
      exact ⟨p, by omega, g2 ht z⟩
  · cases ht : hasF taken (nI k) with
    | true =>
      rw [ht, Bool.true_or] at z
      cases z
    | false =>
      rw [ht, Bool.false_or] at z
      exact g3 ht z
theorem HHd.sk {H : Nat → Int32} {p : Nat} (h : HHd H taken 0 p) : HHd H taken 0 (p + 1) := fun k hk => by
  obtain ⟨g1, g2, g3⟩ := h k hk
  refine ⟨fun z => ?_, fun _ z => ?_, g3⟩
  · obtain ⟨q, q1, q2⟩ := g1 z
    exact ⟨q, by omega, q2⟩
  · rw [hasF_0 (show k < 31 by omega)] at z
    cases z
theorem h_oneDay140 (h421 : I 421 = W) (hG : Rg W) (hL : LawR W nl len cd fa fn) (hN : LwN W nl) {calm : Bool} {Q : Option Value → aH → Prop} {X : String → aH → Prop} (kk : ∀ (J : Nat → Nat → Int32) (y : Int32) (u : Option Value), (∀ q, q ≠ 421 → q ≠ 428 → q ≠ 429 → J q = I q) → J 421 = dayW calm (gwL cd fa fn nl) W → AW S m_X12_oneDay 23 Q X 0 0 140 [some (.ref 420), some (.int (bI calm)), some (.int y), u] [] (hp J L w1 w2 t)) : AW S m_X12_oneDay 23 Q X 0 0 0 [some (.ref 420), some (.int (bI calm)), none, none] [] (hp I L w1 w2 t) := by
  have h12 := hG.1.2.1
  have h6 := hG.1.1
  have ok0 : DyOk nl W W := ⟨hG, rfl, rfl, hN, rfl, fun _ _ => rfl⟩
  refine a_s rfl rfl ?_
  refine a_s2 rfl rfl rfl rfl rfl rfl ?_
  refine a_s rfl rfl ?_
  refine a_s3 rfl rfl rfl rfl rfl rfl ?_
  -- nobody has a tool
  refine a_inv (n := 6) (fun m ls h => ∃ j J, ls = [some (.ref 420), some (.int (bI calm)), some (.int 0), some (.int (nI j))] ∧ h = hp J L w1 w2 t ∧ j ≤ 6 ∧ m = 6 - j ∧ (∀ k, k < j → J 429 k = -1) ∧ ∀ q, q ≠ 429 → J q = I q) ⟨0, I, rfl, rfl, by decide, rfl, fun k hk => absurd hk (Nat.not_lt_zero _), fun _ _ => rfl⟩ ?_
  rintro m _ _ ⟨j, J, rfl, rfl, hj, hm, h429, hf⟩ ih
  refine a_l3 rfl rfl rfl ?_
  refine a_s rfl rfl ?_
  refine a_ic_ge rfl (fun c => ?_) (fun c => ?_)
  rotate_left
  · have hj6 := nI_lt_of (b := 6) c (by omega) (by decide)
    refine a_l0 rfl rfl rfl ?_
    refine a_getq rfl gfX12_42_12 rfl (rfl) ?_
    refine a_l3 rfl rfl rfl ?_
    refine a_s rfl rfl ?_
    refine a_iastv (k := j) rfl (n := 6) rfl (inI_nI hj6 (by decide)) (nI_clamp (by omega)) ?_
    refine a_iv3 (y := nI (j + 1)) rfl rfl rfl ((nI_succ j).symm) ?_
    refine a_goto rfl ?_
    refine ih (6 - (j + 1)) _ _ (by omega) ⟨j + 1, _, rfl, rfl, by omega, rfl, fun k hk => ?_, fun q hq => by rw [up2_row hq]; exact hf q hq⟩
    by_cases ck : k = j
    · rw [ck, up2_at]
    · rw [up2_ne (Or.inr ck)]
      exact h429 k (by omega)
  have hge := nI_ge_of (b := 6) c (by omega) (by decide)
  obtain rfl : j = 6 := by omega
  clear ih c hge
  have z0 : ∀ k, k < 6 → hasF 0 (nI k) = false := fun k hk => hasF_0 (by omega)
  have H0 : HHd (J 429) 0 0 0 := fun k hk => ⟨fun z => absurd z (by rw [z0 k hk]; exact Bool.false_ne_true), fun _ z => absurd z (by rw [z0 k hk]; exact Bool.false_ne_true), fun _ _ => h429 k hk⟩
  have J421 : J 421 = W := (hf 421 (by decide)).trans h421
  refine a_s rfl rfl ?_
  refine a_s3 rfl rfl rfl rfl rfl rfl ?_
  refine a_inv (n := pn W) (fun m ls h => ∃ j y K, ls = [some (.ref 420), some (.int (bI calm)), some (.int y), some (.int (nI j))] ∧ h = hp K L w1 w2 t ∧ j ≤ pn W ∧ m = pn W - j ∧ K 421 = (psF calm W j).1 ∧ HHd (K 429) (psF calm W j).2 0 j ∧ ∀ q, q ≠ 421 → q ≠ 428 → q ≠ 429 → K q = I q) ⟨0, 0, J, rfl, rfl, Nat.zero_le _, rfl, J421, H0, fun q _ _ h3 => hf q h3⟩ ?_
  clear hm h429 hj
  rintro m _ _ ⟨j, y, K, rfl, rfl, hj, hm, eK, hHK, hfK⟩ ih
  have okj := psF_ok (calm := calm) ok0 j hj
  refine a_l3 rfl rfl rfl ?_
  refine a_l0 rfl rfl rfl ?_
  refine a_eV1 rfl lX12_66 mo_X12_people sp_X12_people rfl rfl rfl ⟨12, _, rfl, rfl, rfl⟩ rfl ?_
  refine a_top (y := nI (pn W)) (by rw [eK, okj.1.1.2.2.1, okj.2.1]) ?_
  refine a_ic_ge rfl (fun c => ?_) (fun c => ?_)
  · have hge := nI_ge_of c (by omega) (by omega)
    obtain rfl : j = pn W := by omega
    clear ih
    have fin : dayW calm (gwL cd fa fn nl) W = nwD (gwL cd fa fn nl) (psF calm W (pn W)).1 := rfl
    generalize psF calm W (pn W) = sj at eK okj fin
    refine a_l0 rfl rfl rfl ?_
    refine a_getq rfl gfX12_13_12 rfl (rfl) ?_
    refine a_s rfl rfl ?_
    refine a_s rfl rfl ?_
    refine a_ialdv (v := sj.1 4) rfl (n := 2033) rfl ⟨by decide, by decide⟩ (congrFun eK 4) ?_
    refine a_s rfl rfl ?_
    refine a_s rfl rfl ?_
    refine a_iastv (k := 4) rfl (n := 2033) rfl ⟨by decide, by decide⟩ rfl ?_
    refine a_l0 rfl rfl rfl ?_
    refine a_getq rfl gfX12_13_12 rfl (rfl) ?_
    refine a_s rfl rfl ?_
    refine a_ialdv (v := sj.1 4 + 1) rfl (n := 2033) rfl ⟨by decide, by decide⟩ up2_at ?_
    refine a_s rfl rfl ?_
    refine a_ic_le rfl (fun c2 => ?_) (fun c2 => ?_)
    · refine kk _ _ _ (fun q h1 h2 h3 => by rw [up2_row h1]; exact hfK q h1 h2 h3) ?_
      rw [fin]
      unfold nwD
      rw [if_neg (Int32.not_lt.mpr c2), up2_ud, eK]
    refine a_l0 rfl rfl rfl ?_
    refine a_getq rfl gfX12_13_12 rfl (rfl) ?_
    refine a_s rfl rfl ?_
    refine a_s rfl rfl ?_
    refine a_iastv (k := 4) rfl (n := 2033) rfl ⟨by decide, by decide⟩ rfl ?_
    refine a_l0 rfl rfl rfl ?_
    refine a_getq rfl gfX12_13_12 rfl (rfl) ?_
    refine a_s rfl rfl ?_
    refine a_s rfl rfl ?_
    refine a_l0 rfl rfl rfl ?_
    refine a_getq rfl gfX12_13_12 rfl (rfl) ?_
    refine a_s rfl rfl ?_
    refine a_ialdv (v := sj.1 5) rfl (n := 2033) rfl ⟨by decide, by decide⟩ ((up2_ne (Or.inr (by decide))).trans ((up2_ne (Or.inr (by decide))).trans (congrFun eK 5))) ?_
    refine a_s rfl rfl ?_
    refine a_s rfl rfl ?_
    refine a_min rfl lX12_295 mj_min rfl rfl ?_
    refine a_top (y := mn 9999 (sj.1 5 + 1)) (rfl) ?_
    refine a_iastv (k := 5) rfl (n := 2033) rfl ⟨by decide, by decide⟩ rfl ?_
    have ok3 := mth_ok okj
    generalize hM : up2 (up2 (up2 K 421 4 (sj.1 4 + 1)) 421 4 1) 421 5 (mn 9999 (sj.1 5 + 1)) = M
    have eM : M 421 = ud (ud (ud sj.1 4 (sj.1 4 + 1)) 4 1) 5 (mn 9999 (sj.1 5 + 1)) := by
      rw [← hM, up2_ud, up2_ud, up2_ud, eK]
    have fM : ∀ q, q ≠ 421 → M q = K q := fun q hq => by rw [← hM, up2_row hq, up2_row hq, up2_row hq]
    have e9 : nwD (gwL cd fa fn nl) sj.1 = gwF (gwL cd fa fn nl) (ud (ud (ud sj.1 4 (sj.1 4 + 1)) 4 1) 5 (mn 9999 (sj.1 5 + 1))) (dn W) := by
      unfold nwD
      rw [if_pos (Int32.not_le.mp c2), okj.2.2.1]
    generalize ud (ud (ud sj.1 4 (sj.1 4 + 1)) 4 1) 5 (mn 9999 (sj.1 5 + 1)) = V at eM e9 ok3
    clear hM
    have okV : GwOk nl V V := ⟨ok3.1, rfl, rfl, ok3.2.2.2.1, fun _ _ => rfl⟩
    have nV : dn V = dn W := ok3.2.2.1
    refine a_s rfl rfl ?_
    refine a_s3 rfl rfl rfl rfl rfl rfl ?_
    refine a_inv (n := dn W) (fun m ls h => ∃ j N, ls = [some (.ref 420), some (.int (bI calm)), some (.int y), some (.int (nI j))] ∧ h = hp N L w1 w2 t ∧ j ≤ dn W ∧ m = dn W - j ∧ N 421 = gwF (gwL cd fa fn nl) V j ∧ ∀ q, q ≠ 421 → q ≠ 428 → q ≠ 429 → N q = I q) ⟨0, M, rfl, rfl, Nat.zero_le _, rfl, eM, fun q h1 h2 h3 => (fM q h1).trans (hfK q h1 h2 h3)⟩ ?_
    clear hm hj
    rintro m _ _ ⟨j, N, rfl, rfl, hj, hm, eN, hfN⟩ ih
    have okg := okV.run (cd := cd) (fa := fa) (fn := fn) j (by omega)
    refine a_l3 rfl rfl rfl ?_
    refine a_l0 rfl rfl rfl ?_
    refine a_eV1 rfl lX12_74 mo_X12_duties sp_X12_duties rfl rfl rfl ⟨12, _, rfl, rfl, rfl⟩ rfl ?_
    refine a_top (y := nI (dn W)) (by rw [eN, okg.1.1.2.2.2, okg.2.2.1, nV]) ?_
    refine a_ic_ge rfl (fun c => ?_) (fun c => ?_)
    · have hge := nI_ge_of c (by omega) (by omega)
      obtain rfl : j = dn W := by omega
      exact kk N y _ hfN (by rw [fin, e9]; exact eN)
    have hjn := nI_lt_of c (by omega) (by omega)
    have lawN : LawR (gwF (gwL cd fa fn nl) V j) nl len cd fa fn := LawR.eq hL ((okg.2.2.2.2 3 (fun d hd => by omega)).trans ok3.2.2.2.2.1) (fun k hk => (okg.2.2.2.2 k (fun d hd => by omega)).trans (ok3.2.2.2.2.2 k hk))
    refine a_l0 rfl rfl rfl ?_
    refine a_l3 rfl rfl rfl ?_
    refine a_gV rfl lX12_379 mo_X12_growsOlder (h_growsOlder (d := j) (nl := nl) (len := len) (cd := cd) (fa := fa) (fn := fn) (by rw [eN]; exact okg.1) (by rw [eN, okg.2.2.1, nV]; exact hjn) (by rw [eN]; exact lawN)) rfl rfl rfl ⟨12, _, rfl, rfl, rfl⟩ rfl (fun v' h' hv => ?_)
    obtain ⟨rfl, N2, rfl, hf2, eN2⟩ := hv
    refine a_iv3 (y := nI (j + 1)) rfl rfl rfl ((nI_succ j).symm) ?_
    refine a_goto rfl ?_
    exact ih (dn W - (j + 1)) _ _ (by omega) ⟨j + 1, N2, rfl, rfl, by omega, rfl, by rw [eN2, eN]; rfl, fun q h1 h2 h3 => (hf2 q h1 h2).trans (hfN q h1 h2 h3)⟩
  have hjn := nI_lt_of c (by omega) (by omega)
  have es : psF calm W (j + 1) = psS calm (psF calm W j) j := rfl
  -- the loop goes on
  have on : ∀ (N : Nat → Nat → Int32) (z : Int32), N 421 = (psF calm W (j + 1)).1 → HHd (N 429) (psF calm W (j + 1)).2 0 (j + 1) → (∀ q, q ≠ 421 → q ≠ 428 → q ≠ 429 → N q = I q) → AW S m_X12_oneDay 23 Q X 0 0 63 [some (.ref 420), some (.int (bI calm)), some (.int y), some (.int (nI j))] [.int z, .int y] (hp N L w1 w2 t) := by
    intro N z hN hHN hfN
    refine a_s rfl rfl ?_
    refine a_s2 rfl rfl rfl rfl rfl rfl ?_
    refine a_iv3 (y := nI (j + 1)) rfl rfl rfl ((nI_succ j).symm) ?_
    refine a_goto rfl ?_
    exact ih (pn W - (j + 1)) _ _ (by omega) ⟨j + 1, _, N, rfl, rfl, by omega, rfl, hN, hHN, hfN⟩
  generalize hsj : psF calm W j = sj at eK hHK okj es on ⊢
  have okw := psW_ok (calm := calm) okj
  -- it works
  have wk : ∀ (N : Nat → Nat → Int32), N 421 = psW calm sj.1 → N 429 = K 429 → (∀ q, q ≠ 421 → q ≠ 428 → q ≠ 429 → N q = I q) → ¬ (calm = false ∧ rm100 (drawV (seedF (sj.1 10))) < sj.1 6) → AW S m_X12_oneDay 23 Q X 0 0 58 [some (.ref 420), some (.int (bI calm)), some (.int y), some (.int (nI j))] [.int y] (hp N L w1 w2 t) := by
    intro N hN h9 hfN hc
    refine a_l0 rfl rfl rfl ?_
    refine a_l3 rfl rfl rfl ?_
    refine a_gV rfl lX12_376 mo_X12_works (h_works (taken := sj.2) (p := j) (by rw [hN]; exact okw.1) (by rw [hN, okw.2.1]; exact hjn) (by rw [h9]; exact hHK)) rfl rfl rfl ⟨12, _, rfl, rfl, rfl⟩ rfl (fun v' h' hv => ?_)
    obtain ⟨x, rfl, N2, rfl, hf2, eN2, hH2⟩ := hv
    rw [hN] at eN2 hH2
    rw [show psF calm W (j + 1) = ((wdF (nI j) sj.2 (psW calm sj.1, psW calm sj.1 (11 + 2 * j + 1), 0) (dn (psW calm sj.1))).1, sj.2 ||| (wdF (nI j) sj.2 (psW calm sj.1, psW calm sj.1 (11 + 2 * j + 1), 0) (dn (psW calm sj.1))).2.2) from es.trans (if_neg hc)] at on
    exact on N2 x eN2 (HHd.nx hH2) (fun q h1 h2 h3 => (hf2 q h1 h3).trans (hfN q h1 h2 h3))
  refine a_l2 rfl rfl rfl ?_
  refine a_l1 rfl rfl rfl ?_
  cases calm with
  | true =>
    refine a_if_ne rfl (fun _ => ?_) (fun z => absurd z (by decide))
    exact wk K eK rfl hfK (fun z => by cases z.1)
  | false =>
    refine a_if_ne rfl (fun z => absurd rfl z) (fun _ => ?_)
    refine a_l0 rfl rfl rfl ?_
    refine a_s rfl rfl ?_
    refine a_eV1 rfl lX12_373 mo_X12_drawn h_drawn rfl rfl rfl ⟨12, _, rfl, rfl, rfl⟩ rfl ?_
    have e10 : K 421 10 = sj.1 10 := congrFun eK 10
    rw [e10]
    have eN : up2 K 421 10 (seedF (sj.1 10)) 421 = psW false sj.1 := by rw [up2_ud, eK]; rfl
    refine a_l0 rfl rfl rfl ?_
    refine a_getq rfl gfX12_13_12 rfl (rfl) ?_
    refine a_s rfl rfl ?_
    refine a_ialdv (v := sj.1 6) rfl (n := 2033) rfl ⟨by decide, by decide⟩ ((up2_ne (Or.inr (by decide))).trans (congrFun eK 6)) ?_
    refine a_ic_ge rfl (fun c2 => ?_) (fun c2 => ?_)
    · exact wk _ eN (up2_row (by decide)) (fun q h1 h2 h3 => by rw [up2_row h1]; exact hfK q h1 h2 h3) (fun z => absurd z.2 (Int32.not_lt.mpr c2))
    · refine a_s rfl rfl ?_
      refine a_goto rfl ?_
      rw [show psF false W (j + 1) = (psW false sj.1, sj.2) from es.trans (if_pos ⟨rfl, Int32.not_le.mp c2⟩)] at on
      exact on _ 0 eN (by rw [up2_row (by decide)]; exact HHd.sk hHK) (fun q h1 h2 h3 => by rw [up2_row h1]; exact hfK q h1 h2 h3)
end T79za
end
section
/-! ===== the log: a ring of the class, rows moved on by the reference ===== -/
section T79zb
variable {S : aS} {I : Nat → Nat → Int32} {L : Nat → Nat → Int64} {w1 w2 t : Nat} {a nl len : Nat} {cd fa fn : Nat → Nat} {W : Nat → Int32}
set_option maxRecDepth 100000
/-- the latest rows of both -/
def Lg (I : Nat → Nat → Int32) (a : Nat) (W : Nat → Int32) : Prop := ∃ r n, r ≤ 60 ∧ n < 60 ∧ I (a + 9) 0 = nI r ∧ I (a + 9) 1 = nI n ∧ W 9 = nI r ∧ ∀ k, k < r → ∀ j, j < 4 → I (a + 10) (4 * ((n + 59 - k) % 60) + j) = W (95 + 4 * k + j)
/-- a row more -/
def tell (W : Nat → Int32) (x0 x1 x2 x3 : Int32) : Nat → Int32 := fun j => if 99 ≤ j ∧ j < 335 then W (j - 4) else if j = 95 then x0 else if j = 96 then x1 else if j = 97 then x2 else if j = 98 then x3 else if j = 9 then mn 60 (W 9 + 1) else W j
def adL (I : Nat → Nat → Int32) (n r : Nat) (x0 x1 x2 x3 : Int32) : Nat → Nat → Int32 := up2 (up2 (up2 (up2 (up2 (up2 I 245 (4 * n) x0) 245 (4 * n + 1) x1) 245 (4 * n + 2) x2) 245 (4 * n + 3) x3) 244 1 (nI ((n + 1) % 60))) 244 0 (mn 60 (nI r + 1))
theorem rem60 : ∀ k, k < 61 → nI k - nI k / 60 * 60 = nI (k % 60) := by decide +kernel
theorem f_add {n r : Nat} (h0 : I 244 0 = nI r) (h1 : I 244 1 = nI n) (hn : n < 60) {x0 x1 x2 x3 : Int32} : SpE S m_X1_add 13 [.ref 244, .int x0, .int x1, .int x2, .int x3] (hp I L w1 w2 t) none (hp (adL I n r x0 x1 x2 x3) L w1 w2 t) := by
  refine SpE_of ok_X1_add rfl rfl ?_
  show AW S m_X1_add 13 _ _ 0 0 0 [some (.ref 244), some (.int x0), some (.int x1), some (.int x2), some (.int x3), none] [] (hp I L w1 w2 t)
  refine a_l0 rfl rfl rfl ?_
  refine a_getiv (v := nI n) rfl gfX1_19_1 rfl (h1) ?_
  refine a_s rfl rfl ?_
  refine a_s rfl rfl ?_
  refine a_top (y := nI (4 * n)) (by rw [Nat.mul_comm]; exact nI_mul n 4) ?_
  refine a_s5 rfl rfl rfl rfl rfl rfl ?_
  refine a_l0 rfl rfl rfl ?_
  refine a_getq rfl gfX1_11_1 rfl (rfl) ?_
  refine a_l5 rfl rfl rfl ?_
  refine a_l1 rfl rfl rfl ?_
  refine a_eSN0 rfl lX1_26 mo_X11_setAt (sp_X11_setAt rfl) rfl rfl rfl rfl ?_
  rw [setF_nI (show 4 * n < 240 by omega) (by decide)]
  refine a_l0 rfl rfl rfl ?_
  refine a_getq rfl gfX1_11_1 rfl (rfl) ?_
  refine a_l5 rfl rfl rfl ?_
  refine a_s rfl rfl ?_
  refine a_s rfl rfl ?_
  refine a_top (y := nI (4 * n + 1)) (nI_addl (4 * n) 1) ?_
  refine a_l2 rfl rfl rfl ?_
  refine a_eSN0 rfl lX1_26 mo_X11_setAt (sp_X11_setAt rfl) rfl rfl rfl rfl ?_
  rw [setF_nI (show 4 * n + 1 < 240 by omega) (by decide)]
  refine a_l0 rfl rfl rfl ?_
  refine a_getq rfl gfX1_11_1 rfl (rfl) ?_
  refine a_l5 rfl rfl rfl ?_
  refine a_s rfl rfl ?_
  refine a_s rfl rfl ?_
  refine a_top (y := nI (4 * n + 2)) (nI_addl (4 * n) 2) ?_
  refine a_l3 rfl rfl rfl ?_
  refine a_eSN0 rfl lX1_26 mo_X11_setAt (sp_X11_setAt rfl) rfl rfl rfl rfl ?_
  rw [setF_nI (show 4 * n + 2 < 240 by omega) (by decide)]
  refine a_l0 rfl rfl rfl ?_
  refine a_getq rfl gfX1_11_1 rfl (rfl) ?_
  refine a_l5 rfl rfl rfl ?_
  refine a_s rfl rfl ?_
  refine a_s rfl rfl ?_
  refine a_top (y := nI (4 * n + 3)) (nI_addl (4 * n) 3) ?_
  refine a_l4 rfl rfl rfl ?_
  refine a_eSN0 rfl lX1_26 mo_X11_setAt (sp_X11_setAt rfl) rfl rfl rfl rfl ?_
  rw [setF_nI (show 4 * n + 3 < 240 by omega) (by decide)]
  have g : ∀ q, q ≠ 245 → up2 (up2 (up2 (up2 I 245 (4 * n) x0) 245 (4 * n + 1) x1) 245 (4 * n + 2) x2) 245 (4 * n + 3) x3 q = I q := fun q hq => by rw [up2_row hq, up2_row hq, up2_row hq, up2_row hq]
  refine a_l0 rfl rfl rfl ?_
  refine a_l0 rfl rfl rfl ?_
  refine a_getiv (v := nI n) rfl gfX1_19_1 rfl ((congrFun (g 244 (by decide)) 1).trans h1) ?_
  refine a_s rfl rfl ?_
  refine a_s rfl rfl ?_
  refine a_top (y := nI (n + 1)) ((nI_succ n).symm) ?_
  refine a_s rfl rfl ?_
  refine a_irem rfl (by decide) ?_
  refine a_top (y := nI ((n + 1) % 60)) (rem60 (n + 1) (by omega)) ?_
  refine a_puti rfl pfX1_19_1 rfl ?_
  refine a_l0 rfl rfl rfl ?_
  refine a_s rfl rfl ?_
  refine a_l0 rfl rfl rfl ?_
  refine a_getiv (v := nI r) rfl gfX1_15_1 rfl ((up2_ne (Or.inr (by decide))).trans ((congrFun (g 244 (by decide)) 0).trans h0)) ?_
  refine a_s rfl rfl ?_
  refine a_s rfl rfl ?_
  refine a_min rfl lX1_30 mj_min rfl rfl ?_
  refine a_top (y := mn 60 (nI r + 1)) (rfl) ?_
  refine a_puti rfl pfX1_15_1 rfl ?_
  exact a_vret rfl rfl ⟨rfl, rfl⟩
theorem Lg.add {n r : Nat} {x0 x1 x2 x3 : Int32} (hr : r ≤ 60) (hn : n < 60) (h9 : W 9 = nI r) (hrow : ∀ k, k < r → ∀ j, j < 4 → I 245 (4 * ((n + 59 - k) % 60) + j) = W (95 + 4 * k + j)) : Lg (adL I n r x0 x1 x2 x3) 235 (tell W x0 x1 x2 x3) := by
  have em : mn 60 (nI r + 1) = nI (min 60 (r + 1)) := by rw [← nI_succ, show (60 : Int32) = nI 60 from rfl, mn_nI (by decide) (by omega)]
  refine ⟨min 60 (r + 1), (n + 1) % 60, by omega, Nat.mod_lt _ (by decide), ?_, ?_, ?_, fun k hk j hj => ?_⟩
  · show adL I n r x0 x1 x2 x3 244 0 = _
    unfold adL
    rw [up2_at, em]
  · show adL I n r x0 x1 x2 x3 244 1 = _
    unfold adL
    rw [up2_ne (Or.inr (by decide)), up2_at]
  · unfold tell
    rw [if_neg (by omega), if_neg (by decide), if_neg (by decide), if_neg (by decide), if_neg (by decide), if_pos rfl, h9, em]
  · show adL I n r x0 x1 x2 x3 245 (4 * (((n + 1) % 60 + 59 - k) % 60) + j) = _
    unfold adL
    rw [up2_row (by decide), up2_row (by decide)]
    rcases k with _ | k
    · rw [show ((n + 1) % 60 + 59 - 0) % 60 = n by omega]
      unfold tell
      rcases j with _ | _ | _ | _ | j
      · rw [up2_ne (Or.inr (by omega)), up2_ne (Or.inr (by omega)), up2_ne (Or.inr (by omega))]
        exact up2_at
      · rw [up2_ne (Or.inr (by omega)), up2_ne (Or.inr (by omega))]
        exact up2_at
      · rw [up2_ne (Or.inr (by omega))]
        exact up2_at
      · exact up2_at
      · omega
    · have e : ((n + 1) % 60 + 59 - (k + 1)) % 60 = (n + 59 - k) % 60 := by omega
      have ne : (n + 59 - k) % 60 ≠ n := by omega
      rw [e, up2_ne (Or.inr (by omega)), up2_ne (Or.inr (by omega)), up2_ne (Or.inr (by omega)), up2_ne (Or.inr (by omega)), hrow k (by omega) j hj]
      unfold tell
      rw [if_pos ⟨by omega, by omega⟩]
      congr 1
      omega
theorem Lg.eq {J : Nat → Nat → Int32} {W' : Nat → Int32} (h : Lg I a W) (e9 : J (a + 9) = I (a + 9)) (e10 : J (a + 10) = I (a + 10)) (f9 : W' 9 = W 9) (f : ∀ k, 95 ≤ k → k < 335 → W' k = W k) : Lg J a W' := by
  obtain ⟨r, n, h1, h2, h3, h4, h5, h6⟩ := h
  refine ⟨r, n, h1, h2, by rw [e9]; exact h3, by rw [e9]; exact h4, f9.trans h5, fun k hk j hj => ?_⟩
  rw [e10, f _ (by omega) (by omega)]
  exact h6 k hk j hj
theorem tell_lo {x0 x1 x2 x3 : Int32} {k : Nat} (h : k < 95 ∨ 335 ≤ k) (h9 : k ≠ 9) : tell W x0 x1 x2 x3 k = W k := by
  unfold tell
  rw [if_neg (by omega), if_neg (by omega), if_neg (by omega), if_neg (by omega), if_neg (by omega), if_neg h9]
theorem Sd.tell {x0 x1 x2 x3 : Int32} (h : Sd I a W) : Sd I a (tell W x0 x1 x2 x3) := by
  obtain ⟨h1, h2, h3⟩ := h
  refine ⟨fun x hx => ?_, fun p hp => ?_, fun d hd k hk => ?_⟩
  · have g : ∀ y ∈ flds, y.2 < 11 ∧ y.2 ≠ 9 := by decide
    rw [tell_lo (Or.inl (by have := (g x hx).1; omega)) (g x hx).2]
    exact h1 x hx
  · rw [tell_lo (Or.inl (by omega)) (by omega), tell_lo (Or.inl (by omega)) (by omega)]
    exact h2 p hp
  · rw [tell_lo (Or.inl (by omega)) (by omega)]
    exact h3 d hd k hk
end T79zb
end
section
/-! ===== a row of the log: the reference ===== -/
section T79zc
variable {S : aS} {I : Nat → Nat → Int32} {L : Nat → Nat → Int64} {w1 w2 t : Nat} {d nl len : Nat} {cd fa fn : Nat → Nat} {W V : Nat → Int32}
set_option maxRecDepth 100000
/-- the log's rows don't count for anything but the log -/
theorem Rg.log (h : Rg W) (f : ∀ k, k < 95 → k ≠ 9 → V k = W k) : Rg V ∧ pn V = pn W ∧ dn V = dn W := by
  obtain ⟨⟨h1, h2, h3, h4⟩, hf, hp, hdd⟩ := h
  exact ⟨Rg.of h1 h2 ((f 0 (by omega) (by omega)).trans h3) ((f 1 (by omega) (by omega)).trans h4) (hf.eq fun k z1 z2 => f k (by omega) (by omega)) (fun p z => (hp p z).eq (f _ (by omega) (by omega)) (f _ (by omega) (by omega))) (fun e' z => (hdd e' z).eq fun k hk => f _ (by omega) (by omega)), by unfold pn; rw [f 0 (by omega) (by omega)], by unfold dn; rw [f 1 (by omega) (by omega)]⟩
theorem factW_log (h : Rg W) (hd : d < dn W) (f : ∀ k, k < 95 → k ≠ 9 → V k = W k) : factW V d = factW W d := by
  have h12 := h.1.2.1
  have h6 := h.1.1
  have e : ∀ k, k < 6 → ∀ i, i < 12 → vd V k i = vd W k i := fun k hk i hi => f _ (by omega) (by omega)
  obtain ⟨⟨j, hj, ej⟩, -, -, -, hl, -⟩ := h.2.2.2 d hd
  have ej : vd W 0 d = nI j := ej
  have e5 : V (11 + 2 * (vd W 0 d).toNatClampNeg) = W (11 + 2 * (vd W 0 d).toNatClampNeg) := by
    rw [ej, nI_clamp (by omega)]
    exact f _ (by omega) (by omega)
  have e7 : lwF V d = lwF W d := by
    unfold lwF
    rw [e 4 (by decide) d (by omega)]
    rcases hl with z | ⟨i, hi, z⟩
    · have z : vd W 4 d = -1 := z
      rw [z]
      simp
    · have z : vd W 4 d = nI i := z
      rw [z, nI_clamp (by omega), e 5 (by decide) i (by omega)]
  have e0 := e 0 (by decide) d (by omega)
  have e1 := e 1 (by decide) d (by omega)
  have e2 := e 2 (by decide) d (by omega)
  have e3 := e 3 (by decide) d (by omega)
  have e4 : V 4 = W 4 := f 4 (by decide) (by decide)
  funext k
  rcases k with _ | _ | _ | _ | _ | _ | _ | _ | _ | n
  all_goals simp only [factW, e0, e1, e2, e3, e4, e5, e7]
theorem sumR_log {kind : Int32} (h : Rg W) (hd : d < dn W) (f : ∀ k, k < 95 → k ≠ 9 → V k = W k) (g : ∀ k, 335 ≤ k → V k = W k) : sumR V cd fa fn nl d kind = sumR W cd fa fn nl d kind := by
  unfold sumR
  rw [factW_log h hd f]
  exact sumL_congr fun i _ => ⟨g _ (by omega), g _ (by omega)⟩
theorem shameR_log (h : Rg W) (hd : d < dn W) (f : ∀ k, k < 95 → k ≠ 9 → V k = W k) (g : ∀ k, 335 ≤ k → V k = W k) : shameR V cd fa fn nl d = shameR W cd fa fn nl d := by
  have h12 := h.1.2.1
  unfold shameR
  rw [sumR_log h hd f g, sumR_log h hd f g, show vd V 2 d = vd W 2 d from f _ (by omega) (by omega)]
def shf (W : Nat → Int32) (b : Nat) : Nat → Int32 := fun j => if b < j ∧ j < 335 then W (j - 4) else W j
theorem shf_s {b : Nat} (h : 99 ≤ b) (h2 : b < 335) : ud (shf W b) b (shf W b (b - 4)) = shf W (b - 1) := by
  funext j
  unfold shf
  by_cases c : j = b
  · subst c
    rw [ud_at, if_neg (by omega), if_pos ⟨by omega, h2⟩]
  · rw [ud_ne c]
    by_cases c2 : b < j ∧ j < 335
    · rw [if_pos c2, if_pos ⟨by omega, c2.2⟩]
    · rw [if_neg c2, if_neg (fun z => c2 ⟨by omega, z.2⟩)]
theorem h_tells (hG : Rg (I 421)) (hd : d < dn (I 421)) (hL : LawR (I 421) nl len cd fa fn) {x : Int32} : Sp S m_X12_tells 21 0 0 [.ref 420, .int (nI d), .int x] (hp I L w1 w2 t) (fun v h' => v = none ∧ ∃ J, h' = hp J L w1 w2 t ∧ (∀ q, q ≠ 421 → q ≠ 428 → J q = I q) ∧ J 421 = tell (I 421) (I 421 5) (nI d) x (shameR (I 421) cd fa fn nl d)) nX := by
  generalize hW : I 421 = W at hG hd hL ⊢
  have h12 := hG.1.2.1
  have h6 := hG.1.1
  refine Sp_of ok_X12_tells rfl rfl ?_
  show AW S m_X12_tells 21 _ _ 0 0 0 [some (.ref 420), some (.int (nI d)), some (.int x), none] [] (hp I L w1 w2 t)
  refine a_s rfl rfl ?_
  refine a_s3 rfl rfl rfl rfl rfl rfl ?_
  refine a_inv (n := 236) (fun m ls h => ∃ I', ls = [some (.ref 420), some (.int (nI d)), some (.int x), some (.int (nI (m + 3)))] ∧ h = hp I' L w1 w2 t ∧ I' 421 = shf W (95 + (m + 3)) ∧ (∀ q, q ≠ 421 → I' q = I q) ∧ m ≤ 236) ⟨_, rfl, rfl, ?_, fun _ _ => rfl, by decide⟩ ?_
  · rw [hW]
    funext j
    unfold shf
    rw [if_neg (by omega)]
  rintro m _ _ ⟨I1, rfl, rfl, e1, hf, hm⟩ ih
  refine a_l3 rfl rfl rfl ?_
  refine a_s rfl rfl ?_
  refine a_ic_lt rfl (fun c => ?_) (fun c => ?_)
  rotate_left
  · have h4 : 4 ≤ m + 3 := nI_le_of (a := 4) (b := m + 3) c (by decide) (by omega)
    refine a_l0 rfl rfl rfl ?_
    refine a_getq rfl gfX12_13_12 rfl (rfl) ?_
    refine a_s rfl rfl ?_
    refine a_l3 rfl rfl rfl ?_
    refine a_s rfl rfl ?_
    refine a_top (y := nI (95 + (m + 3))) (nI_addl 95 (m + 3)) ?_
    refine a_l0 rfl rfl rfl ?_
    refine a_getq rfl gfX12_13_12 rfl (rfl) ?_
    refine a_s rfl rfl ?_
    refine a_l3 rfl rfl rfl ?_
    refine a_s rfl rfl ?_
    refine a_s rfl rfl ?_
    refine a_s rfl rfl ?_
    refine a_top (y := nI (95 + (m + 3) - 4)) (by rw [show (95 : Int32) + nI (m + 3) = nI (95 + (m + 3)) from nI_addl 95 (m + 3)]; exact nI_sub (j := 4) (by omega)) ?_
    refine a_ialdv (v := shf W (95 + (m + 3)) (95 + (m + 3) - 4)) rfl (n := 2033) rfl (inI_nI (by omega) (by omega)) (by rw [nI_clamp (by omega), e1]) ?_
    refine a_iastv (k := 95 + (m + 3)) rfl (n := 2033) rfl (inI_nI (by omega) (by omega)) (nI_clamp (by omega)) ?_
    refine a_i3 rfl rfl rfl ?_
    refine a_goto rfl ?_
    refine a_less (ih (m - 1) _ _ (by omega) ⟨_, rfl, rfl, ?_, fun q hq => by rw [up2_row hq]; exact hf q hq, by omega⟩) ⟨rfl, rfl, rfl, ?_, trivial⟩
    · rw [up2_ud, e1, shf_s (by omega) (by omega)]
      congr 1
      omega
    · rw [show m + 3 = m - 1 + 3 + 1 by omega, nI_decm]
  have m0 : m = 0 := by
    have := nI_lt_of (a := m + 3) (b := 4) (Int32.not_le.mpr c) (by omega) (by decide)
    omega
  subst m0
  have e1 : I1 421 = shf W 98 := e1
  have lo : ∀ k, k < 99 → shf W 98 k = W k := fun k hk => by unfold shf; rw [if_neg (by omega)]
  refine a_l0 rfl rfl rfl ?_
  refine a_getq rfl gfX12_13_12 rfl (rfl) ?_
  refine a_s rfl rfl ?_
  refine a_l0 rfl rfl rfl ?_
  refine a_getq rfl gfX12_13_12 rfl (rfl) ?_
  refine a_s rfl rfl ?_
  refine a_ialdv (v := W 5) rfl (n := 2033) rfl ⟨by decide, by decide⟩ ((congrFun e1 5).trans (lo 5 (by decide))) ?_
  refine a_iastv (k := 95) rfl (n := 2033) rfl ⟨by decide, by decide⟩ rfl ?_
  refine a_l0 rfl rfl rfl ?_
  refine a_getq rfl gfX12_13_12 rfl (rfl) ?_
  refine a_s rfl rfl ?_
  refine a_l1 rfl rfl rfl ?_
  refine a_iastv (k := 96) rfl (n := 2033) rfl ⟨by decide, by decide⟩ rfl ?_
  refine a_l0 rfl rfl rfl ?_
  refine a_getq rfl gfX12_13_12 rfl (rfl) ?_
  refine a_s rfl rfl ?_
  refine a_l2 rfl rfl rfl ?_
  refine a_iastv (k := 97) rfl (n := 2033) rfl ⟨by decide, by decide⟩ rfl ?_
  generalize hM : up2 (up2 (up2 I1 421 95 (W 5)) 421 96 (nI d)) 421 97 x = M
  have eM : M 421 = ud (ud (ud (shf W 98) 95 (W 5)) 96 (nI d)) 97 x := by rw [← hM, up2_ud, up2_ud, up2_ud, e1]
  have fM : ∀ q, q ≠ 421 → M q = I q := fun q hq => by rw [← hM, up2_row hq, up2_row hq, up2_row hq]; exact hf q hq
  have lM : ∀ k, k < 95 → k ≠ 9 → M 421 k = W k := fun k hk _ => by rw [eM, ud_ne (by omega), ud_ne (by omega), ud_ne (by omega)]; exact lo k (by omega)
  have hMi : ∀ k, 335 ≤ k → M 421 k = W k := fun k hk => by
    rw [eM, ud_ne (by omega), ud_ne (by omega), ud_ne (by omega)]
    unfold shf
    rw [if_neg (by omega)]
  obtain ⟨gM, pM, dM⟩ := Rg.log hG lM
  refine a_l0 rfl rfl rfl ?_
  refine a_getq rfl gfX12_13_12 rfl (rfl) ?_
  refine a_s rfl rfl ?_
  refine a_l0 rfl rfl rfl ?_
  refine a_l1 rfl rfl rfl ?_
  refine a_gV rfl lX12_318 mo_X12_shamesBy (sp_X12_shamesBy (nd := dn W) (np := pn W) h12 h6 hd (by rw [← dM]; exact gM.so.l) (by rw [← dM, ← pM]; exact gM.so.o) (LawR.eq hL (lM 3 (by decide) (by decide)) hMi)) rfl rfl rfl ⟨12, _, rfl, rfl, rfl⟩ rfl (fun v' h' hv => ?_)
  obtain ⟨rfl, f, rfl⟩ := hv
  refine a_top (y := shameR W cd fa fn nl d) (shameR_log hG hd lM hMi) ?_
  refine a_iastv (k := 98) rfl (n := 2033) rfl ⟨by decide, by decide⟩ rfl ?_
  refine a_l0 rfl rfl rfl ?_
  refine a_getq rfl gfX12_13_12 rfl (rfl) ?_
  refine a_s rfl rfl ?_
  refine a_s rfl rfl ?_
  refine a_l0 rfl rfl rfl ?_
  refine a_getq rfl gfX12_13_12 rfl (rfl) ?_
  refine a_s rfl rfl ?_
  refine a_ialdv (v := W 9) rfl (n := 2033) rfl ⟨by decide, by decide⟩ ?_ ?_
  · show up2 (upr M 428 f) 421 98 (shameR W cd fa fn nl d) 421 9 = W 9
    rw [up2_ne (Or.inr (by decide)), upr_row (by decide), eM, ud_ne (by decide), ud_ne (by decide), ud_ne (by decide)]
    exact lo 9 (by decide)
  refine a_s rfl rfl ?_
  refine a_s rfl rfl ?_
  refine a_min rfl lX12_295 mj_min rfl rfl ?_
  refine a_top (y := mn 60 (W 9 + 1)) (rfl) ?_
  refine a_iastv (k := 9) rfl (n := 2033) rfl ⟨by decide, by decide⟩ rfl ?_
  refine a_vret rfl rfl ⟨rfl, _, rfl, fun q h1 h2 => by rw [up2_row h1, up2_row h1, upr_row h2]; exact fM q h1, ?_⟩
  rw [up2_ud, up2_ud, upr_row (by decide), eM]
  funext j
  unfold tell
  by_cases c99 : 99 ≤ j ∧ j < 335
  · rw [if_pos c99, ud_ne (by omega), ud_ne (by omega), ud_ne (by omega), ud_ne (by omega), ud_ne (by omega)]
    unfold shf
    rw [if_pos ⟨by omega, c99.2⟩]
  rw [if_neg c99]
  by_cases c9 : j = 9
  · subst c9
    rw [ud_at, if_neg (by decide), if_neg (by decide), if_neg (by decide), if_neg (by decide), if_pos rfl]
  rw [ud_ne c9]
  by_cases c8 : j = 98
  · subst c8
    rw [ud_at, if_neg (by decide), if_neg (by decide), if_neg (by decide), if_pos rfl]
  rw [ud_ne c8]
  by_cases c7 : j = 97
  · subst c7
    rw [ud_at, if_neg (by decide), if_neg (by decide), if_pos rfl]
  rw [ud_ne c7]
  by_cases c6 : j = 96
  · subst c6
    rw [ud_at, if_neg (by decide), if_pos rfl]
  rw [ud_ne c6]
  by_cases c5 : j = 95
  · subst c5
    rw [ud_at, if_pos rfl]
  rw [ud_ne c5, if_neg c5, if_neg c6, if_neg c7, if_neg c8, if_neg c9]
  unfold shf
  rw [if_neg (by omega)]
end T79zc
end
section
/-! ===== the parade: each place has one duty at most ===== -/
section T79zd
variable {S : aS} {I : Nat → Nat → Int32} {L : Nat → Nat → Int64} {w1 w2 t : Nat} {d e k nl len : Nat} {cd fa fn : Nat → Nat} {W V : Nat → Int32}
set_option maxRecDepth 100000
def pl (W : Nat → Int32) (d : Nat) : Int32 := placeF (dn W) (vd W 5) (vd W 2) (nI d)
theorem cnt_le {P Q : Nat → Bool} : ∀ {n : Nat}, (∀ x, x < n → P x = true → Q x = true) → cntF n P ≤ cntF n Q := by
  intro n
  induction n with
  | zero => exact fun _ => Nat.le_refl _
  | succ n ih =>
    intro h
    have ih := ih fun x hx => h x (by omega)
    cases hp : P n with
    | false =>
      rw [cntF_f hp]
      cases hq : Q n with
      | false => rw [cntF_f hq]; exact ih
      | true => rw [cntF_t hq]; omega
    | true =>
      rw [cntF_t hp, cntF_t (h n (Nat.lt_succ_self n) hp)]
      omega
theorem cnt_lt {P Q : Nat → Bool} : ∀ {n : Nat}, (∀ x, x < n → P x = true → Q x = true) → (∃ x, x < n ∧ Q x = true ∧ P x = false) → cntF n P < cntF n Q := by
  intro n
  induction n with
  | zero =>
    rintro _ ⟨x, hx, -⟩
    exact absurd hx (Nat.not_lt_zero _)
  | succ n ih =>
    rintro h ⟨x, hx, q, p⟩
    have hl := cnt_le (n := n) fun y hy => h y (by omega)
    by_cases c : x = n
    · subst c
      rw [cntF_f p, cntF_t q]
      omega
    · have ih := ih (fun y hy => h y (by omega)) ⟨x, by omega, q, p⟩
      cases hp : P n with
      | false =>
        rw [cntF_f hp]
        cases hq : Q n with
        | false => rw [cntF_f hq]; exact ih
        | true => rw [cntF_t hq]; omega
      | true =>
        rw [cntF_t hp, cntF_t (h n (Nat.lt_succ_self n) hp)]
        omega
theorem pl_no (h12 : dn W ≤ 12) (hd : d < dn W) (h : ¬ vd W 5 d = 0) : pl W d = -1 := by
  unfold pl placeF
  rw [waitF_nI hd h12, decide_eq_false h, if_neg Bool.false_ne_true]
theorem pl_is (h12 : dn W ≤ 12) (hd : d < dn W) (h : vd W 5 d = 0) : pl W d = nI (cntF (dn W) (fun x => decide (vd W 5 x = 0 ∧ (vd W 2 x < vd W 2 d ∨ (vd W 2 x = vd W 2 d ∧ nI x < nI d))))) := by
  unfold pl placeF placeC
  rw [waitF_nI hd h12, decide_eq_true h, if_pos rfl, atF_nI (show d < 12 by omega) (by decide)]
theorem nI_no {m : Nat} (h : m < 2 ^ 31) : ¬ nI m = -1 := fun z => by
  have := nI_pos h
  rw [z] at this
  exact this (by decide)
theorem bf_irr {x : Int32} : ¬ (x < x) := fun z => Int32.lt_irrefl z
/-- who goes ahead has the lesser place -/
theorem pl_lt (h12 : dn W ≤ 12) (hd : d < dn W) (he : e < dn W) (h1 : vd W 5 d = 0) (h : vd W 2 d < vd W 2 e ∨ (vd W 2 d = vd W 2 e ∧ d < e)) : cntF (dn W) (fun x => decide (vd W 5 x = 0 ∧ (vd W 2 x < vd W 2 d ∨ (vd W 2 x = vd W 2 d ∧ nI x < nI d)))) < cntF (dn W) (fun x => decide (vd W 5 x = 0 ∧ (vd W 2 x < vd W 2 e ∨ (vd W 2 x = vd W 2 e ∧ nI x < nI e)))) := by
  have ix : ∀ {x y : Nat}, x < 12 → y < 12 → (nI x < nI y ↔ x < y) := fun hx hy => nI_lt_iff (by omega) (by omega)
  refine cnt_lt (fun x hx z => ?_) ⟨d, hd, ?_, ?_⟩
  · obtain ⟨z1, z2⟩ := of_decide_eq_true z
    refine decide_eq_true ⟨z1, ?_⟩
    rcases z2 with z2 | ⟨z2, z3⟩
    · rcases h with h | ⟨h, h'⟩
      · exact Or.inl (Int32.lt_trans z2 h)
      · exact Or.inl (h ▸ z2)
    · rcases h with h | ⟨h, h'⟩
      · exact Or.inl (z2 ▸ h)
      · exact Or.inr ⟨z2.trans h, (ix (by omega) (by omega)).mpr (by have := (ix (by omega) (by omega)).mp z3; omega)⟩
  · refine decide_eq_true ⟨h1, ?_⟩
    rcases h with h | ⟨h, h'⟩
    · exact Or.inl h
    · exact Or.inr ⟨h, (ix (by omega) (by omega)).mpr h'⟩
  · refine decide_eq_false fun z => ?_
    rcases z.2 with z | ⟨-, z⟩
    · exact bf_irr z
    · exact bf_irr z
theorem pl_inj (h12 : dn W ≤ 12) (hd : d < dn W) (he : e < dn W) (h1 : vd W 5 d = 0) (h2 : vd W 5 e = 0) (h : pl W d = pl W e) : d = e := by
  rw [pl_is h12 hd h1, pl_is h12 he h2] at h
  have c1 := cntF_le (dn W) (fun x => decide (vd W 5 x = 0 ∧ (vd W 2 x < vd W 2 d ∨ (vd W 2 x = vd W 2 d ∧ nI x < nI d))))
  have c2 := cntF_le (dn W) (fun x => decide (vd W 5 x = 0 ∧ (vd W 2 x < vd W 2 e ∨ (vd W 2 x = vd W 2 e ∧ nI x < nI e))))
  have h := nI_inj (by omega) (by omega) h
  by_cases c : d = e
  · exact c
  exfalso
  by_cases a1 : vd W 2 d < vd W 2 e
  · have := pl_lt h12 hd he h1 (Or.inl a1)
    omega
  by_cases a2 : vd W 2 e < vd W 2 d
  · have := pl_lt h12 he hd h2 (Or.inl a2)
    omega
  have a3 : vd W 2 d = vd W 2 e := Int32.le_antisymm (Int32.not_lt.mp a2) (Int32.not_lt.mp a1)
  rcases Nat.lt_or_gt_of_ne c with g | g
  · have := pl_lt h12 hd he h1 (Or.inr ⟨a3, g⟩)
    omega
  · have := pl_lt h12 he hd h2 (Or.inr ⟨a3.symm, g⟩)
    omega
theorem pl_bd (h12 : dn W ≤ 12) (hd : d < dn W) {k : Nat} (hk : k < 2 ^ 31) (h : pl W d = nI k) : vd W 5 d = 0 ∧ k < dn W := by
  by_cases h1 : vd W 5 d = 0
  · refine ⟨h1, ?_⟩
    have c2 := cntF_le (dn W) (fun x => decide (vd W 5 x = 0 ∧ (vd W 2 x < vd W 2 d ∨ (vd W 2 x = vd W 2 d ∧ nI x < nI d))))
    rw [pl_is h12 hd h1] at h
    have h := nI_inj (by omega) hk h
    have c3 : cntF (dn W) (fun x => decide (vd W 5 x = 0 ∧ (vd W 2 x < vd W 2 d ∨ (vd W 2 x = vd W 2 d ∧ nI x < nI d)))) < cntF (dn W) (fun _ => true) := by
      refine cnt_lt (fun _ _ _ => rfl) ⟨d, hd, rfl, decide_eq_false fun z => ?_⟩
      rcases z.2 with z | ⟨-, z⟩
      · exact bf_irr z
      · exact bf_irr z
    have c4 := cntF_le (dn W) (fun _ => true)
    omega
  · rw [pl_no h12 hd h1] at h
    exact absurd h.symm (nI_no hk)
theorem pl_log (hG : Rg W) (hd : d < dn W) (f : ∀ k, k < 95 → k ≠ 9 → V k = W k) : pl V d = pl W d := by
  have h12 := hG.1.2.1
  obtain ⟨-, -, eV⟩ := Rg.log hG f
  have e5 : ∀ x, x < dn W → vd V 5 x = vd W 5 x := fun x hx => f _ (by omega) (by omega)
  have e2 : ∀ x, x < dn W → vd V 2 x = vd W 2 x := fun x hx => f _ (by omega) (by omega)
  by_cases c : vd W 5 d = 0
  · rw [pl_is h12 hd c, pl_is (by rw [eV]; exact h12) (by rw [eV]; exact hd) (by rw [e5 d hd]; exact c), eV]
    congr 1
    refine cntF_congr fun x hx => ?_
    rw [e5 x hx, e2 x hx, e2 d hd]
  · rw [pl_no h12 hd c, pl_no (by rw [eV]; exact h12) (by rw [eV]; exact hd) (by rw [e5 d hd]; exact c)]
/-- the duty at a place -/
def dtF (W : Nat → Int32) (k : Nat) : Nat → Int32
  | 0 => -1
  | n + 1 => if dtF W k n = -1 then (if pl W n = nI k then nI n else -1) else dtF W k n
theorem dtF_ix {k : Nat} : ∀ n, n ≤ 12 → dtF W k n = -1 ∨ ∃ d, d < n ∧ dtF W k n = nI d ∧ pl W d = nI k := by
  intro n
  induction n with
  | zero => exact fun _ => Or.inl rfl
  | succ n ih =>
    intro hn
    unfold dtF
    rcases ih (by omega) with z | ⟨d, d1, d2, d3⟩
    · rw [if_pos z]
      by_cases c : pl W n = nI k
      · rw [if_pos c]
        exact Or.inr ⟨n, Nat.lt_succ_self n, rfl, c⟩
      · rw [if_neg c]
        exact Or.inl rfl
    · rw [d2, if_neg (nI_no (by omega))]
      exact Or.inr ⟨d, by omega, rfl, d3⟩
/-- a place goes by -/
def lt1 (cd fa fn : Nat → Nat) (nl : Nat) (W : Nat → Int32) (k : Nat) : Nat → Int32 := if dtF W k (dn W) = -1 then W else tell W (W 5) (dtF W k (dn W)) (nI k) (shameR W cd fa fn nl (ixN (dtF W k (dn W))))
def ltF (cd fa fn : Nat → Nat) (nl : Nat) (W : Nat → Int32) : Nat → Nat → Int32
  | 0 => W
  | n + 1 => lt1 cd fa fn nl (ltF cd fa fn nl W n) n
theorem lt1_lo {k j : Nat} (h : j < 95 ∨ 335 ≤ j) (h9 : j ≠ 9) : lt1 cd fa fn nl W k j = W j := by
  unfold lt1
  by_cases c : dtF W k (dn W) = -1
  · rw [if_pos c]
  · rw [if_neg c, tell_lo h h9]
theorem ltF_lo {n j : Nat} (h : j < 95 ∨ 335 ≤ j) (h9 : j ≠ 9) : ltF cd fa fn nl W n j = W j := by
  induction n with
  | zero => rfl
  | succ n ih =>
    show lt1 cd fa fn nl (ltF cd fa fn nl W n) n j = W j
    rw [lt1_lo h h9, ih]
theorem f_dutyAt (hD : Sd I 235 W) (hG : Rg W) {k : Nat} (hk : k < 2 ^ 31) : SpE S m_X5_dutyAt 16 [.ref 235, .int (nI k)] (hp I L w1 w2 t) (some (.int (dtF W k (dn W)))) (hp I L w1 w2 t) := by
  have h12 := hG.1.2.1
  have hd3 : I 235 3 = nI (dn W) := (Sd.fd hD (f := 3) (g := 1) (by decide)).trans hG.1.2.2.2
  refine SpE_of ok_X5_dutyAt rfl rfl ?_
  show AW S m_X5_dutyAt 16 _ _ 0 0 0 [some (.ref 235), some (.int (nI k)), none] [] (hp I L w1 w2 t)
  refine a_s rfl rfl ?_
  refine a_s2 rfl rfl rfl rfl rfl rfl ?_
  refine a_inv (n := dn W) (fun m ls h => ∃ j, ls = [some (.ref 235), some (.int (nI k)), some (.int (nI j))] ∧ h = hp I L w1 w2 t ∧ j ≤ dn W ∧ m = dn W - j ∧ dtF W k j = -1) ⟨0, rfl, rfl, Nat.zero_le _, rfl, rfl⟩ ?_
  rintro m _ _ ⟨j, rfl, rfl, hj, hm, hdt⟩ ih
  refine a_l2 rfl rfl rfl ?_
  refine a_l0 rfl rfl rfl ?_
  refine a_getiv (v := nI (dn W)) rfl gfX5_63_5 rfl (hd3) ?_
  refine a_ic_ge rfl (fun c => ?_) (fun c => ?_)
  · have hge := nI_ge_of c (by omega) (by omega)
    obtain rfl : j = dn W := by omega
    refine a_s rfl rfl ?_
    exact a_iret rfl rfl ⟨by rw [hdt], rfl⟩
  have hjn := nI_lt_of c (by omega) (by omega)
  have skip : ¬ pl W j = nI k → AW S m_X5_dutyAt 16 (fun v h' => v = some (.int (dtF W k (dn W))) ∧ h' = hp I L w1 w2 t) (fun _ _ => False) 0 0 29 [some (.ref 235), some (.int (nI k)), some (.int (nI j))] [] (hp I L w1 w2 t) := by
    intro z
    refine a_iv2 (y := nI (j + 1)) rfl rfl rfl ((nI_succ j).symm) ?_
    refine a_goto rfl ?_
    refine ih (dn W - (j + 1)) _ _ (by omega) ⟨j + 1, rfl, rfl, by omega, rfl, ?_⟩
    unfold dtF
    rw [if_pos hdt, if_neg z]
  refine a_l0 rfl rfl rfl ?_
  refine a_l2 rfl rfl rfl ?_
  refine a_eV1 rfl lX5_90 mo_X5_isWaiting (sp_X5_isWaiting (nd := dn W) (a := 235) (by decide) hd3 h12) rfl rfl rfl ⟨5, _, rfl, rfl, rfl⟩ rfl ?_
  rw [wait_same hD hG hjn]
  by_cases c0 : vd W 5 j = 0
  rotate_left
  · rw [decide_eq_false c0]
    refine a_if_eq rfl (fun _ => ?_) (fun z => absurd rfl z)
    exact skip (fun z => by rw [pl_no h12 hjn c0] at z; exact nI_no hk z.symm)
  rw [decide_eq_true c0]
  refine a_if_eq rfl (fun z => absurd z (by decide)) (fun _ => ?_)
  refine a_l0 rfl rfl rfl ?_
  refine a_l2 rfl rfl rfl ?_
  refine a_eV1 rfl lX5_113 mo_X5_placeOf (sp_X5_placeOf (nd := dn W) (a := 235) (by decide) hd3 h12) rfl rfl rfl ⟨5, _, rfl, rfl, rfl⟩ rfl ?_
  rw [place_same hD hG hjn]
  refine a_l1 rfl rfl rfl ?_
  refine a_ic_ne rfl (fun c2 => skip c2) (fun c2 => ?_)
  refine a_l2 rfl rfl rfl ?_
  refine a_iret rfl rfl ⟨?_, rfl⟩
  have key : ∀ i, dtF W k (j + 1 + i) = nI j := by
    intro i
    induction i with
    | zero =>
      show dtF W k (j + 1) = nI j
      unfold dtF
      rw [if_pos hdt]
      exact if_pos c2
    | succ i ih =>
      show dtF W k ((j + 1 + i) + 1) = nI j
      unfold dtF
      rw [ih, if_neg (nI_no (by omega))]
  rw [show dn W = j + 1 + (dn W - (j + 1)) by omega, key]
end T79zd
end
section
/-! ===== the parade goes by, on both sides ===== -/
section T79ze
variable {S : aS} {I : Nat → Nat → Int32} {L : Nat → Nat → Int64} {w1 w2 t : Nat} {nl len : Nat} {cd fa fn : Nat → Nat} {W : Nat → Int32}
set_option maxRecDepth 100000
def inG (cd fa fn : Nat → Nat) (nl : Nat) (W : Nat → Int32) (k n : Nat) : Nat → Int32 := if dtF W k n = -1 then W else tell W (W 5) (dtF W k n) (nI k) (shameR W cd fa fn nl (ixN (dtF W k n)))
theorem inG_lo {k n j : Nat} (h : j < 95 ∨ 335 ≤ j) (h9 : j ≠ 9) : inG cd fa fn nl W k n j = W j := by
  unfold inG
  by_cases c : dtF W k n = -1
  · rw [if_pos c]
  · rw [if_neg c, tell_lo h h9]
theorem ltF_rg (hG : Rg W) {n : Nat} : Rg (ltF cd fa fn nl W n) ∧ pn (ltF cd fa fn nl W n) = pn W ∧ dn (ltF cd fa fn nl W n) = dn W := Rg.log hG fun k h1 h9 => ltF_lo (Or.inl h1) h9
theorem lt1_no (hG : Rg W) {k : Nat} (hk : dn W ≤ k) (h2 : k < 2 ^ 31) : lt1 cd fa fn nl W k = W := by
  have h12 := hG.1.2.1
  unfold lt1
  rcases dtF_ix (W := W) (k := k) (dn W) h12 with z | ⟨d, d1, d2, d3⟩
  · rw [if_pos z]
  · have := (pl_bd h12 d1 h2 d3).2
    omega
theorem ltF_all (hG : Rg W) : ∀ i, dn W + i ≤ 12 → ltF cd fa fn nl W (dn W + i) = ltF cd fa fn nl W (dn W) := by
  intro i
  induction i with
  | zero => exact fun _ => rfl
  | succ i ih =>
    intro h
    have ih := ih (by omega)
    show lt1 cd fa fn nl (ltF cd fa fn nl W (dn W + i)) (dn W + i) = _
    obtain ⟨g1, -, g3⟩ := ltF_rg (cd := cd) (fa := fa) (fn := fn) (nl := nl) hG (n := dn W + i)
    rw [lt1_no g1 (by rw [g3]; omega) (by omega), ih]
theorem h_goesBy (hG : Rg (I 421)) (hL : LawR (I 421) nl len cd fa fn) : Sp S m_X12_goesBy 22 0 0 [.ref 420] (hp I L w1 w2 t) (fun v h' => v = none ∧ ∃ J, h' = hp J L w1 w2 t ∧ (∀ q, q ≠ 421 → q ≠ 428 → J q = I q) ∧ J 421 = ltF cd fa fn nl (I 421) (dn (I 421))) nX := by
  generalize hW : I 421 = W at hG hL ⊢
  have h12 := hG.1.2.1
  refine Sp_of ok_X12_goesBy rfl rfl ?_
  show AW S m_X12_goesBy 22 _ _ 0 0 0 [some (.ref 420), none, none] [] (hp I L w1 w2 t)
  refine a_s rfl rfl ?_
  refine a_s1 rfl rfl rfl rfl rfl rfl ?_
  refine a_inv (n := dn W) (fun m ls h => ∃ k J, ls = [some (.ref 420), some (.int (nI k)), none] ∧ h = hp J L w1 w2 t ∧ k ≤ dn W ∧ m = dn W - k ∧ J 421 = ltF cd fa fn nl W k ∧ ∀ q, q ≠ 421 → q ≠ 428 → J q = I q) ⟨0, I, rfl, rfl, Nat.zero_le _, rfl, hW, fun _ _ _ => rfl⟩ ?_
  rintro m _ _ ⟨k, J, rfl, rfl, hk, hm, eJ, hf⟩ ih
  obtain ⟨gV, pV, dV⟩ := ltF_rg (cd := cd) (fa := fa) (fn := fn) (nl := nl) hG (n := k)
  have lawV : LawR (ltF cd fa fn nl W k) nl len cd fa fn := LawR.eq hL (ltF_lo (Or.inl (by decide)) (by decide)) (fun j hj => ltF_lo (Or.inr hj) (by omega))
  have es : ltF cd fa fn nl W (k + 1) = lt1 cd fa fn nl (ltF cd fa fn nl W k) k := rfl
  refine a_l1 rfl rfl rfl ?_
  refine a_l0 rfl rfl rfl ?_
  refine a_eV1 rfl lX12_74 mo_X12_duties sp_X12_duties rfl rfl rfl ⟨12, _, rfl, rfl, rfl⟩ rfl ?_
  refine a_top (y := nI (dn W)) (by rw [eJ, gV.1.2.2.2, dV]) ?_
  refine a_ic_ge rfl (fun c => ?_) (fun c => ?_)
  · have hge := nI_ge_of c (by omega) (by omega)
    obtain rfl : k = dn W := by omega
    exact a_vret rfl rfl ⟨rfl, J, rfl, hf, eJ⟩
  have hkn := nI_lt_of c (by omega) (by omega)
  have on : ∀ (K : Nat → Nat → Int32) (v : Option Value), K 421 = ltF cd fa fn nl W (k + 1) → (∀ q, q ≠ 421 → q ≠ 428 → K q = I q) → AW S m_X12_goesBy 22 (fun v h' => v = none ∧ ∃ J, h' = hp J L w1 w2 t ∧ (∀ q, q ≠ 421 → q ≠ 428 → J q = I q) ∧ J 421 = ltF cd fa fn nl W (dn W)) nX 0 0 41 [some (.ref 420), some (.int (nI k)), v] [] (hp K L w1 w2 t) := by
    intro K v hK hfK
    refine a_iv1 (y := nI (k + 1)) rfl rfl rfl ((nI_succ k).symm) ?_
    refine a_goto rfl ?_
    exact a_less (ih (dn W - (k + 1)) _ _ (by omega) ⟨k + 1, K, rfl, rfl, by omega, rfl, hK, hfK⟩) ⟨rfl, rfl, trivial⟩
  generalize ltF cd fa fn nl W k = V at eJ gV pV dV lawV es
  clear ih hm
  refine a_s rfl rfl ?_
  refine a_s2 rfl rfl rfl rfl rfl rfl ?_
  refine a_inv (n := dn W) (fun m ls h => ∃ d K, ls = [some (.ref 420), some (.int (nI k)), some (.int (nI d))] ∧ h = hp K L w1 w2 t ∧ d ≤ dn W ∧ m = dn W - d ∧ K 421 = inG cd fa fn nl V k d ∧ ∀ q, q ≠ 421 → q ≠ 428 → K q = I q) ⟨0, J, rfl, rfl, Nat.zero_le _, rfl, eJ, hf⟩ ?_
  rintro m _ _ ⟨d, K, rfl, rfl, hd, hm, eK, hfK⟩ ih
  have lo : ∀ j, j < 95 → j ≠ 9 → K 421 j = V j := fun j h1 h9 => by rw [eK]; exact inG_lo (Or.inl h1) h9
  have hi : ∀ j, 335 ≤ j → K 421 j = V j := fun j h1 => by rw [eK]; exact inG_lo (Or.inr h1) (by omega)
  obtain ⟨gK, pK, dK⟩ := Rg.log gV lo
  refine a_l2 rfl rfl rfl ?_
  refine a_l0 rfl rfl rfl ?_
  refine a_eV1 rfl lX12_74 mo_X12_duties sp_X12_duties rfl rfl rfl ⟨12, _, rfl, rfl, rfl⟩ rfl ?_
  refine a_top (y := nI (dn W)) (by rw [gK.1.2.2.2, dK, dV]) ?_
  refine a_ic_ge rfl (fun c => ?_) (fun c => ?_)
  · have hge := nI_ge_of c (by omega) (by omega)
    obtain rfl : d = dn W := by omega
    refine on K _ ?_ hfK
    rw [es, eK]
    unfold inG lt1
    rw [dV]
  have hdn := nI_lt_of c (by omega) (by omega)
  have eds : dtF V k (d + 1) = if dtF V k d = -1 then (if pl V d = nI k then nI d else -1) else dtF V k d := rfl
  refine a_l0 rfl rfl rfl ?_
  refine a_l2 rfl rfl rfl ?_
  refine a_eV1 rfl lX12_283 mo_X12_placeOf (sp_X12_placeOf (nd := dn W) h12 (by rw [gK.1.2.2.2, dK, dV]) hdn) rfl rfl rfl ⟨12, _, rfl, rfl, rfl⟩ rfl ?_
  refine a_top (y := pl V d) (by rw [← pl_log gV (by rw [dV]; exact hdn) lo]; unfold pl; rw [dK, dV]) ?_
  refine a_l1 rfl rfl rfl ?_
  refine a_ic_ne rfl (fun c2 => ?_) (fun c2 => ?_)
  · refine a_iv2 (y := nI (d + 1)) rfl rfl rfl ((nI_succ d).symm) ?_
    refine a_goto rfl ?_
    refine ih (dn W - (d + 1)) _ _ (by omega) ⟨d + 1, K, rfl, rfl, by omega, rfl, ?_, hfK⟩
    have ed : dtF V k (d + 1) = dtF V k d := by
      rw [eds, if_neg c2]
      by_cases cz : dtF V k d = -1
      · rw [if_pos cz, cz]
      · rw [if_neg cz]
    rw [eK]
    unfold inG
    rw [ed]
  have hpd := pl_bd (by rw [dV]; exact h12) (by rw [dV]; exact hdn) (show k < 2 ^ 31 by omega) c2
  have cz : dtF V k d = -1 := by
    rcases dtF_ix (W := V) (k := k) d (by omega) with z | ⟨e, e1, e2, e3⟩
    · exact z
    · exfalso
      have hpe := pl_bd (W := V) (d := e) (by rw [dV]; exact h12) (by rw [dV]; omega) (show k < 2 ^ 31 by omega) e3
      have := pl_inj (by rw [dV]; exact h12) (by rw [dV]; omega) (by rw [dV]; exact hdn) hpe.1 hpd.1 (e3.trans c2.symm)
      omega
  have eKV : K 421 = V := by
    rw [eK]
    unfold inG
    rw [if_pos cz]
  refine a_l0 rfl rfl rfl ?_
  refine a_l2 rfl rfl rfl ?_
  refine a_l1 rfl rfl rfl ?_
  refine a_gV rfl lX12_370 mo_X12_tells (h_tells (d := d) (nl := nl) (len := len) (cd := cd) (fa := fa) (fn := fn) (by rw [eKV]; exact gV) (by rw [eKV, dV]; exact hdn) (by rw [eKV]; exact lawV)) rfl rfl rfl ⟨12, _, rfl, rfl, rfl⟩ rfl (fun v' h' hv => ?_)
  obtain ⟨rfl, K2, rfl, hf2, eK2⟩ := hv
  refine a_iv2 (y := nI (d + 1)) rfl rfl rfl ((nI_succ d).symm) ?_
  refine a_goto rfl ?_
  refine ih (dn W - (d + 1)) _ _ (by omega) ⟨d + 1, K2, rfl, rfl, by omega, rfl, ?_, fun q h1 h2 => (hf2 q h1 h2).trans (hfK q h1 h2)⟩
  rw [eK2, eKV]
  unfold inG
  rw [eds, if_pos cz, if_pos c2, if_neg (nI_no (by omega)), ixN_nI (by omega)]
theorem f_parade (hD : Sd I 235 W) (hLg : Lg I 235 W) (hG : Rg W) (hL : LwS I 246 W nl len cd fa fn) : Sp S m_X11_letParadeGoBy 18 0 0 [.ref 200] (hp I L w1 w2 t) (fun v h' => v = none ∧ ∃ J, h' = hp J L w1 w2 t ∧ (∀ q, q ≠ 244 → q ≠ 245 → q ≠ 252 → q ≠ 253 → J q = I q) ∧ Sd J 235 (ltF cd fa fn nl W (dn W)) ∧ Lg J 235 (ltF cd fa fn nl W (dn W))) nX := by
  have h12 := hG.1.2.1
  refine Sp_of ok_X11_letParadeGoBy rfl rfl ?_
  show AW S m_X11_letParadeGoBy 18 _ _ 0 0 0 [some (.ref 200), none, none] [] (hp I L w1 w2 t)
  refine a_s rfl rfl ?_
  refine a_s1 rfl rfl rfl rfl rfl rfl ?_
  refine a_inv (n := 12) (fun m ls h => ∃ k J, ls = [some (.ref 200), some (.int (nI k)), none] ∧ h = hp J L w1 w2 t ∧ k ≤ 12 ∧ m = 12 - k ∧ Sd J 235 (ltF cd fa fn nl W k) ∧ Lg J 235 (ltF cd fa fn nl W k) ∧ ∀ q, q ≠ 244 → q ≠ 245 → q ≠ 252 → q ≠ 253 → J q = I q) ⟨0, I, rfl, rfl, Nat.zero_le _, rfl, hD, hLg, fun _ _ _ _ _ => rfl⟩ ?_
  rintro m _ _ ⟨k, J, rfl, rfl, hk, hm, DJ, LJ, hf⟩ ih
  refine a_l1 rfl rfl rfl ?_
  refine a_s rfl rfl ?_
  refine a_ic_ge rfl (fun c => ?_) (fun c => ?_)
  · have hge := nI_ge_of (b := 12) c (by omega) (by decide)
    obtain rfl : k = 12 := by omega
    have e := ltF_all (cd := cd) (fa := fa) (fn := fn) (nl := nl) hG (12 - dn W) (by omega)
    rw [show dn W + (12 - dn W) = 12 by omega] at e
    rw [e] at DJ LJ
    exact a_vret rfl rfl ⟨rfl, J, rfl, hf, DJ, LJ⟩
  have hk12 := nI_lt_of (b := 12) c (by omega) (by decide)
  obtain ⟨gV, pV, dV⟩ := ltF_rg (cd := cd) (fa := fa) (fn := fn) (nl := nl) hG (n := k)
  have lawV : LwS J 246 (ltF cd fa fn nl W k) nl len cd fa fn := LwS.eq hL (fun q g1 g2 => hf q (by omega) (by omega) (by omega) (by omega)) (ltF_lo (Or.inl (by decide)) (by decide)) (fun j hj => ltF_lo (Or.inr hj) (by omega))
  have es : ltF cd fa fn nl W (k + 1) = lt1 cd fa fn nl (ltF cd fa fn nl W k) k := rfl
  have on : ∀ (K : Nat → Nat → Int32) (v : Option Value), Sd K 235 (ltF cd fa fn nl W (k + 1)) → Lg K 235 (ltF cd fa fn nl W (k + 1)) → (∀ q, q ≠ 244 → q ≠ 245 → q ≠ 252 → q ≠ 253 → K q = I q) → AW S m_X11_letParadeGoBy 18 (fun v h' => v = none ∧ ∃ J, h' = hp J L w1 w2 t ∧ (∀ q, q ≠ 244 → q ≠ 245 → q ≠ 252 → q ≠ 253 → J q = I q) ∧ Sd J 235 (ltF cd fa fn nl W (dn W)) ∧ Lg J 235 (ltF cd fa fn nl W (dn W))) nX 0 0 53 [some (.ref 200), some (.int (nI k)), v] [] (hp K L w1 w2 t) := by
    intro K v hK hLK hfK
    refine a_iv1 (y := nI (k + 1)) rfl rfl rfl ((nI_succ k).symm) ?_
    refine a_goto rfl ?_
    exact a_less (ih (12 - (k + 1)) _ _ (by omega) ⟨k + 1, K, rfl, rfl, by omega, rfl, hK, hLK, hfK⟩) ⟨rfl, rfl, trivial⟩
  generalize ltF cd fa fn nl W k = V at DJ LJ gV pV dV lawV es
  have v12 : dn V ≤ 12 := gV.1.2.1
  refine a_l0 rfl rfl rfl ?_
  refine a_getq rfl gfX11_37_11 rfl (rfl) ?_
  refine a_l1 rfl rfl rfl ?_
  refine a_eV1 rfl lX11_266 mo_X5_dutyAt (f_dutyAt (k := k) DJ gV (by omega)) rfl rfl rfl ⟨5, _, rfl, rfl, rfl⟩ rfl ?_
  refine a_s2 rfl rfl rfl rfl rfl rfl ?_
  refine a_l2 rfl rfl rfl ?_
  refine a_s rfl rfl ?_
  rcases dtF_ix (W := V) (k := k) (dn V) v12 with z | ⟨d, d1, d2, d3⟩
  · refine a_ic_eq rfl (fun _ => ?_) (fun c => absurd z c)
    have e : ltF cd fa fn nl W (k + 1) = V := by
      rw [es]
      unfold lt1
      rw [if_pos z]
    exact on J _ (by rw [e]; exact DJ) (by rw [e]; exact LJ) hf
  rw [d2]
  refine a_ic_eq rfl (fun c => absurd c (nI_no (by omega))) (fun _ => ?_)
  refine a_l0 rfl rfl rfl ?_
  refine a_getq rfl gfX11_37_11 rfl (rfl) ?_
  refine a_getq rfl gfX11_211_5 rfl (rfl) ?_
  refine a_l0 rfl rfl rfl ?_
  refine a_getq rfl gfX11_37_11 rfl (rfl) ?_
  refine a_getiv (v := V 5) rfl gfX11_188_5 rfl (Sd.fd DJ (by decide)) ?_
  refine a_l2 rfl rfl rfl ?_
  refine a_l1 rfl rfl rfl ?_
  refine a_l0 rfl rfl rfl ?_
  refine a_getq rfl gfX11_44_11 rfl (rfl) ?_
  refine a_l0 rfl rfl rfl ?_
  refine a_getq rfl gfX11_37_11 rfl (rfl) ?_
  refine a_l2 rfl rfl rfl ?_
  refine a_gV rfl lX11_170 mo_X2_shameOf (sp_X2_shameOf (a := 235) (b := 246) (d := d) (by decide) (by decide) (by omega) lawV.1) rfl rfl rfl ⟨2, _, rfl, rfl, rfl⟩ rfl (fun v' h' hv => ?_)
  obtain ⟨rfl, K, rfl, hfK⟩ := hv
  refine a_top (y := shameR V cd fa fn nl d) (by unfold shameC shameR; rw [sum_same DJ gV lawV d1, sum_same DJ gV lawV d1, show J (235 + 5) d = vd V 2 d from Sd.row (k := 2) DJ (by omega) (by decide)]) ?_
  obtain ⟨r, n, r60, n60, l0, l1, l9, lr⟩ := LJ
  have k244 : K 244 = J 244 := hfK 244 (by decide) (by decide)
  have k245 : K 245 = J 245 := hfK 245 (by decide) (by decide)
  refine a_eV0 rfl lX11_385 mo_X1_add (f_add (r := r) (n := n) ((congrFun k244 0).trans l0) ((congrFun k244 1).trans l1) n60) rfl rfl rfl ⟨1, _, rfl, rfl, rfl⟩ rfl ?_
  have e : ltF cd fa fn nl W (k + 1) = tell V (V 5) (nI d) (nI k) (shameR V cd fa fn nl d) := by
    rw [es]
    unfold lt1
    rw [d2, if_neg (nI_no (by omega)), ixN_nI (by omega)]
  have fr : ∀ q, q ≠ 244 → q ≠ 245 → adL K n r (V 5) (nI d) (nI k) (shameR V cd fa fn nl d) q = K q := fun q h1 h2 => by
    unfold adL
    rw [up2_row h1, up2_row h1, up2_row h2, up2_row h2, up2_row h2, up2_row h2]
  refine on _ _ ?_ ?_ (fun q h1 h2 h3 h4 => by rw [fr q h1 h2, hfK q h3 h4]; exact hf q h1 h2 h3 h4)
  · rw [e]
    refine Sd.tell (Sd.eq DJ fun q g1 g2 => ?_)
    rw [fr q (by omega) (by omega), hfK q (by omega) (by omega)]
  · rw [e]
    refine Lg.add r60 n60 l9 (fun k' hk' j hj => ?_)
    rw [k245]
    exact lr k' hk' j hj
end T79ze
end
section
/-! ===== days, on both sides ===== -/
section T79zf
variable {S : aS} {I : Nat → Nat → Int32} {L : Nat → Nat → Int64} {w1 w2 t : Nat} {nl len nd np n fa r : Nat} {cd fa' fn : Nat → Nat} {W : Nat → Int32}
set_option maxRecDepth 100000
theorem psF_lg {calm : Bool} (h : DyOk nl W W) {k : Nat} (hk : k = 9 ∨ 95 ≤ k) : ∀ n, n ≤ pn W → (psF calm W n).1 k = W k := by
  intro n
  induction n with
  | zero => exact fun _ => rfl
  | succ n ih =>
    intro hn
    have ih := ih (by omega)
    have ok := psF_ok (calm := calm) h n (by omega)
    have e1 : psW calm (psF calm W n).1 k = (psF calm W n).1 k := by
      unfold psW
      by_cases c : calm = true
      · rw [if_pos c]
      · rw [if_neg c, ud_ne (by omega)]
    show (psS calm (psF calm W n) n).1 k = W k
    unfold psS
    by_cases c : calm = false ∧ rm100 (drawV (seedF ((psF calm W n).1 10))) < (psF calm W n).1 6
    · rw [if_pos c]
      exact e1.trans ih
    · rw [if_neg c]
      have okw := psW_ok (calm := calm) ok
      obtain ⟨-, -, -, -, g5⟩ := WdOk.run (p := nI n) (taken := (psF calm W n).2) (W := psW calm (psF calm W n).1) (s := (psW calm (psF calm W n).1, psW calm (psF calm W n).1 (11 + 2 * n + 1), 0)) ⟨okw.1, rfl, rfl, (okw.1.2.2.1 n (by rw [okw.2.1]; omega)).2, fun _ _ => rfl⟩ (dn (psW calm (psF calm W n).1)) (Nat.le_refl _)
      exact (g5 k (fun d hd => by omega)).trans (e1.trans ih)
theorem nwD_lg {s : Nat → Int32} (h : DyOk nl W s) {k : Nat} (hk : k = 9 ∨ 95 ≤ k) : nwD (gwL cd fa' fn nl) s k = s k := by
  unfold nwD
  by_cases c : 30 < s 4 + 1
  · rw [if_pos c]
    obtain ⟨hG, hp, hd, hL, h3, -⟩ := mth_ok h
    obtain ⟨-, -, -, -, g5⟩ := GwOk.run (cd := cd) (fa := fa') (fn := fn) (nl := nl) ⟨hG, rfl, rfl, hL, fun _ _ => rfl⟩ (dn s) (by rw [hd, h.2.2.1]; exact Nat.le_refl _)
    rw [g5 k (fun d hd => by omega), ud_ne (by omega), ud_ne (by omega), ud_ne (by omega)]
  · rw [if_neg c, ud_ne (by omega)]
theorem dayW_lg {calm : Bool} (h : DyOk nl W W) {k : Nat} (hk : k = 9 ∨ 95 ≤ k) : dayW calm (gwL cd fa' fn nl) W k = W k := (nwD_lg (psF_ok h _ (Nat.le_refl _)) hk).trans (psF_lg h hk _ (Nat.le_refl _))
/-- a day, and the parade on the second -/
def dyP (cd fa fn : Nat → Nat) (nl : Nat) (V : Nat → Int32) : Nat → Int32 := if V 4 = 2 then ltF cd fa fn nl V (dn V) else V
def dsW (calm : Bool) (cd fa fn : Nat → Nat) (nl : Nat) (W : Nat → Int32) : Nat → Nat → Int32
  | 0 => W
  | n + 1 => dyP cd fa fn nl (dayW calm (gwL cd fa fn nl) (dsW calm cd fa fn nl W n))
/-- ranges, and what days never change -/
def DsOk (nl : Nat) (W s : Nat → Int32) : Prop := Rg s ∧ pn s = pn W ∧ dn s = dn W ∧ LwN s nl ∧ s 3 = W 3 ∧ ∀ k, 335 ≤ k → s k = W k
theorem DsOk.dy {s : Nat → Int32} (h : DsOk nl W s) : DyOk nl s s := ⟨h.1, rfl, rfl, h.2.2.2.1, rfl, fun _ _ => rfl⟩
theorem dyP_ok {s V : Nat → Int32} (h : DsOk nl W s) (hV : DyOk nl s V) : DsOk nl W (dyP cd fa' fn nl V) := by
  obtain ⟨g1, g2, g3, g4, g5, g6⟩ := hV
  unfold dyP
  by_cases c : V 4 = 2
  · rw [if_pos c]
    obtain ⟨l1, l2, l3⟩ := ltF_rg (cd := cd) (fa := fa') (fn := fn) (nl := nl) g1 (n := dn V)
    exact ⟨l1, l2.trans (g2.trans h.2.1), l3.trans (g3.trans h.2.2.1), LwN.eq g4 fun k hk => ltF_lo (Or.inr hk) (by omega), (ltF_lo (Or.inl (by decide)) (by decide)).trans (g5.trans h.2.2.2.2.1), fun k hk => (ltF_lo (Or.inr hk) (by omega)).trans ((g6 k hk).trans (h.2.2.2.2.2 k hk))⟩
  · rw [if_neg c]
    exact ⟨g1, g2.trans h.2.1, g3.trans h.2.2.1, g4, g5.trans h.2.2.2.2.1, fun k hk => (g6 k hk).trans (h.2.2.2.2.2 k hk)⟩
theorem dsW_ok {calm : Bool} (h : DsOk nl W W) : ∀ n, DsOk nl W (dsW calm cd fa' fn nl W n) := by
  intro n
  induction n with
  | zero => exact h
  | succ n ih => exact dyP_ok ih (dayW_ok ih.dy)
theorem h_oneDay (h421 : I 421 = W) (hG : Rg W) (hL : LawR W nl len cd fa' fn) (hN : LwN W nl) {calm : Bool} : Sp S m_X12_oneDay 23 0 0 [.ref 420, .int (bI calm)] (hp I L w1 w2 t) (fun v h' => ∃ y, v = some (.int y) ∧ ∃ J, h' = hp J L w1 w2 t ∧ (∀ q, q ≠ 421 → q ≠ 428 → q ≠ 429 → J q = I q) ∧ J 421 = dyP cd fa' fn nl (dayW calm (gwL cd fa' fn nl) W)) nX := by
  refine Sp_of ok_X12_oneDay rfl rfl ?_
  show AW S m_X12_oneDay 23 _ _ 0 0 0 [some (.ref 420), some (.int (bI calm)), none, none] [] (hp I L w1 w2 t)
  refine h_oneDay140 h421 hG hL hN (fun J y u hf eJ => ?_)
  have ok : DyOk nl W (dayW calm (gwL cd fa' fn nl) W) := dayW_ok ⟨hG, rfl, rfl, hN, rfl, fun _ _ => rfl⟩
  generalize dayW calm (gwL cd fa' fn nl) W = V at eJ ok ⊢
  refine a_l0 rfl rfl rfl ?_
  refine a_getq rfl gfX12_13_12 rfl (rfl) ?_
  refine a_s rfl rfl ?_
  refine a_ialdv (v := V 4) rfl (n := 2033) rfl ⟨by decide, by decide⟩ (congrFun eJ 4) ?_
  refine a_s rfl rfl ?_
  refine a_ic_ne rfl (fun c => ?_) (fun c => ?_)
  · refine a_l2 rfl rfl rfl ?_
    exact a_iret rfl rfl ⟨y, rfl, J, rfl, hf, by unfold dyP; rw [if_neg c]; exact eJ⟩
  refine a_l0 rfl rfl rfl ?_
  refine a_gV rfl lX12_382 mo_X12_goesBy (h_goesBy (nl := nl) (len := len) (cd := cd) (fa := fa') (fn := fn) (by rw [eJ]; exact ok.1) (by rw [eJ]; exact LawR.eq hL ok.2.2.2.2.1 ok.2.2.2.2.2)) rfl rfl rfl ⟨12, _, rfl, rfl, rfl⟩ rfl (fun v' h' hv => ?_)
  obtain ⟨rfl, K, rfl, hfK, eK⟩ := hv
  refine a_l2 rfl rfl rfl ?_
  exact a_iret rfl rfl ⟨y, rfl, K, rfl, fun q h1 h2 h3 => (hfK q h1 h2).trans (hf q h1 h2 h3), by unfold dyP; rw [if_pos c, eK, eJ]⟩
theorem h_goesOn (h421 : I 421 = W) (hG : Rg W) (hL : LawR W nl len cd fa' fn) (hN : LwN W nl) {calm : Bool} {m : Nat} (hm : m ≤ 90) : Sp S m_X12_goesOn 24 0 0 [.ref 420, .int (nI m), .int (bI calm)] (hp I L w1 w2 t) (fun v h' => ∃ y, v = some (.int y) ∧ ∃ J, h' = hp J L w1 w2 t ∧ (∀ q, q ≠ 421 → q ≠ 428 → q ≠ 429 → J q = I q) ∧ J 421 = dsW calm cd fa' fn nl W m) nX := by
  have ok0 : DsOk nl W W := ⟨hG, rfl, rfl, hN, rfl, fun _ _ => rfl⟩
  refine Sp_of ok_X12_goesOn rfl rfl ?_
  show AW S m_X12_goesOn 24 _ _ 0 0 0 [some (.ref 420), some (.int (nI m)), some (.int (bI calm)), none, none] [] (hp I L w1 w2 t)
  refine a_s rfl rfl ?_
  refine a_s3 rfl rfl rfl rfl rfl rfl ?_
  refine a_s rfl rfl ?_
  refine a_s4 rfl rfl rfl rfl rfl rfl ?_
  refine a_inv (n := m) (fun i ls h => ∃ j y J, ls = [some (.ref 420), some (.int (nI m)), some (.int (bI calm)), some (.int y), some (.int (nI j))] ∧ h = hp J L w1 w2 t ∧ j ≤ m ∧ i = m - j ∧ J 421 = dsW calm cd fa' fn nl W j ∧ ∀ q, q ≠ 421 → q ≠ 428 → q ≠ 429 → J q = I q) ⟨0, 0, I, rfl, rfl, Nat.zero_le _, rfl, h421, fun _ _ _ _ => rfl⟩ ?_
  rintro i _ _ ⟨j, y, J, rfl, rfl, hj, hi, eJ, hf⟩ ih
  refine a_l4 rfl rfl rfl ?_
  refine a_l1 rfl rfl rfl ?_
  refine a_ic_ge rfl (fun c => ?_) (fun c => ?_)
  · have hge := nI_ge_of c (by omega) (by omega)
    obtain rfl : j = m := by omega
    refine a_l3 rfl rfl rfl ?_
    exact a_iret rfl rfl ⟨y, rfl, J, rfl, hf, eJ⟩
  have hjm := nI_lt_of c (by omega) (by omega)
  have okj := dsW_ok (calm := calm) (cd := cd) (fa' := fa') (fn := fn) ok0 j
  refine a_l3 rfl rfl rfl ?_
  refine a_l0 rfl rfl rfl ?_
  refine a_l2 rfl rfl rfl ?_
  refine a_gV rfl lX12_385 mo_X12_oneDay (h_oneDay (calm := calm) eJ okj.1 (LawR.eq hL okj.2.2.2.2.1 okj.2.2.2.2.2) okj.2.2.2.1) rfl rfl rfl ⟨12, _, rfl, rfl, rfl⟩ rfl (fun v' h' hv => ?_)
  obtain ⟨z, rfl, K, rfl, hfK, eK⟩ := hv
  refine a_s rfl rfl ?_
  refine a_s3 rfl rfl rfl rfl rfl rfl ?_
  refine a_iv4 (y := nI (j + 1)) rfl rfl rfl ((nI_succ j).symm) ?_
  refine a_goto rfl ?_
  exact ih (m - (j + 1)) _ _ (by omega) ⟨j + 1, _, K, rfl, rfl, by omega, rfl, eK, fun q h1 h2 h3 => (hfK q h1 h2 h3).trans (hf q h1 h2 h3)⟩
theorem h_days (hG : Rg (I 421)) (hL : LawR (I 421) nl len cd fa' fn) (hN : LwN (I 421) nl) (er : I 420 7 = nI r) (hr12 : r ≤ 12) {x : Int32} : Sp S m_X12_days 25 0 0 [.ref 420, .int x] (hp I L w1 w2 t) (fun v h' => ∃ y, v = some (.int y) ∧ ((inB x 1 90 = false ∧ h' = hp (up2 (up2 I 420 0 0) 420 0 1) L w1 w2 t) ∨ ∃ m, 1 ≤ m ∧ m ≤ 90 ∧ x = nI m ∧ ∃ J, h' = hp J L w1 w2 t ∧ (∀ q, q ≠ 421 → q ≠ 428 → q ≠ 429 → J q = remH (up2 I 420 0 0) r q) ∧ J 421 = dsW false cd fa' fn nl (I 421) m)) nX := by
  have e21 : up2 I 420 0 0 421 = I 421 := up2_row (by decide)
  have er0 : up2 I 420 0 0 420 7 = nI r := (up2_ne (Or.inr (by decide))).trans er
  refine Sp_of ok_X12_days rfl rfl ?_
  show AW S m_X12_days 25 _ _ 0 0 0 [some (.ref 420), some (.int x)] [] (hp I L w1 w2 t)
  refine a_l0 rfl rfl rfl ?_
  refine a_s rfl rfl ?_
  refine a_puti rfl pfX12_3_12 rfl ?_
  refine a_l0 rfl rfl rfl ?_
  refine a_l1 rfl rfl rfl ?_
  refine a_s rfl rfl ?_
  refine a_s rfl rfl ?_
  refine a_eS1 rfl lX12_70 mo_X12_in sp_X12_in rfl rfl rfl rfl ?_
  obtain ⟨z, hz⟩ : ∃ z, inB x 1 90 = z := ⟨_, rfl⟩
  rw [hz]
  cases z with
  | false =>
    refine a_if_ne rfl (fun c => absurd rfl c) (fun _ => ?_)
    refine a_s rfl rfl ?_
    refine a_goto rfl ?_
    refine a_s rfl rfl ?_
    refine a_eV1 rfl lX12_243 mo_X12_throwsIf (h_throwsIf (z := true)) rfl rfl rfl ⟨12, _, rfl, rfl, rfl⟩ rfl ?_
    rw [if_pos rfl]
    refine a_if_eq rfl (fun c => absurd c (by decide)) (fun _ => ?_)
    refine a_s rfl rfl ?_
    exact a_iret rfl rfl ⟨0, rfl, Or.inl ⟨rfl, rfl⟩⟩
  | true =>
    refine a_if_ne rfl (fun _ => ?_) (fun c => absurd c (by decide))
    refine a_s rfl rfl ?_
    refine a_s rfl rfl ?_
    refine a_eV1 rfl lX12_243 mo_X12_throwsIf (h_throwsIf (z := false)) rfl rfl rfl ⟨12, _, rfl, rfl, rfl⟩ rfl ?_
    rw [if_neg Bool.false_ne_true]
    refine a_if_eq rfl (fun _ => ?_) (fun c => absurd rfl c)
    obtain ⟨z1, z2⟩ := of_decide_eq_true hz
    obtain ⟨m, m1, m2, em⟩ : ∃ m, 1 ≤ m ∧ m ≤ 90 ∧ x = nI m := by
      rw [Int32.le_iff_toInt_le] at z1 z2
      have z1 : (1 : Int) ≤ x.toInt := z1
      have z2 : x.toInt ≤ 90 := z2
      refine ⟨x.toInt.toNat, by omega, by omega, ?_⟩
      rw [← Int32.toInt_inj, nI_toInt (by omega)]
      omega
    subst em
    refine a_l0 rfl rfl rfl ?_
    refine a_eV0 rfl lX12_357 mo_X12_remembers (h_remembers er0 hr12) rfl rfl rfl ⟨12, _, rfl, rfl, rfl⟩ rfl ?_
    have e22 : remH (up2 I 420 0 0) r 421 = I 421 := remH_421.trans e21
    refine a_l0 rfl rfl rfl ?_
    refine a_l1 rfl rfl rfl ?_
    refine a_s rfl rfl ?_
    refine a_gV rfl lX12_388 mo_X12_goesOn (h_goesOn (calm := false) (m := m) e22 hG hL hN m2) rfl rfl rfl ⟨12, _, rfl, rfl, rfl⟩ rfl (fun v' h' hv => ?_)
    obtain ⟨y, rfl, J, rfl, hf, eJ⟩ := hv
    exact a_iret rfl rfl ⟨y, rfl, Or.inr ⟨m, m1, m2, rfl, J, rfl, hf, eJ⟩⟩
end T79zf
end
section
/-! ===== days and call of the class ===== -/
section T79zg
variable {S : aS} {I : Nat → Nat → Int32} {L : Nat → Nat → Int64} {w1 w2 t : Nat} {nl len n fa : Nat} {cd fa' fn : Nat → Nat} {W : Nat → Int32}
set_option maxRecDepth 100000
theorem f_days (hD : Sd I 235 W) (hLg : Lg I 235 W) (hG : Rg W) (hL : LwS I 246 W nl len cd fa' fn) (hN : LwN W nl) (h13 : I 200 13 = nI n) (hn : n ≤ 12) (h12 : I 200 12 = nI fa) (hf : fa < 12) {x : Int32} : Sp S m_X11_days 20 1 6 [.ref 200, .int x] (hp I L w1 w2 t) (fun v h' => ∃ y, v = some (.int y) ∧ ∃ m, 1 ≤ m ∧ m ≤ 90 ∧ x = nI m ∧ ∃ J, h' = hp J L w1 w2 t ∧ (∀ q, (q < 235 ∨ 245 < q) → q ≠ 252 → q ≠ 253 → J q = reS I n fa q) ∧ Sd J 235 (dsW false cd fa' fn nl W m) ∧ Lg J 235 (dsW false cd fa' fn nl W m)) (fun E h' => E = exN 1 ∧ inB x 1 90 = false ∧ h' = hp I L w1 w2 0) := by
  have ok0 : DsOk nl W W := ⟨hG, rfl, rfl, hN, rfl, fun _ _ => rfl⟩
  refine Sp_of ok_X11_days rfl rfl ?_
  show AW S m_X11_days 20 _ _ 1 6 0 [some (.ref 200), some (.int x), none, none] [] (hp I L w1 w2 t)
  refine a_l1 rfl rfl rfl ?_
  refine a_s rfl rfl ?_
  refine a_s rfl rfl ?_
  refine a_callS rfl lX11_250 mo_X11_needNumber (f_needNumber) rfl rfl rfl rfl (fun v' h' hv => ?_) (fun E h' ex => ex)
  obtain ⟨rfl, hz, rfl⟩ := hv
  obtain ⟨z1, z2⟩ := of_decide_eq_true hz
  obtain ⟨m, m1, m2, em⟩ : ∃ m, 1 ≤ m ∧ m ≤ 90 ∧ x = nI m := by
    rw [Int32.le_iff_toInt_le] at z1 z2
    have z1 : (1 : Int) ≤ x.toInt := z1
    have z2 : x.toInt ≤ 90 := z2
    refine ⟨x.toInt.toNat, by omega, by omega, ?_⟩
    rw [← Int32.toInt_inj, nI_toInt (by omega)]
    omega
  subst em
  refine a_l0 rfl rfl rfl ?_
  refine a_eV0 rfl lX11_230 mo_X11_rememberAct (f_remember h13 hn h12 hf) rfl rfl rfl ⟨11, _, rfl, rfl, rfl⟩ rfl ?_
  have rr : ∀ q, q ≠ 200 → q < 288 → reS I n fa q = I q := fun q h1 h2 => reS_row h1 (Or.inl h2)
  have D0 : Sd (reS I n fa) 235 W := Sd.eq hD fun q g1 g2 => rr q (by omega) (by omega)
  have L0 : Lg (reS I n fa) 235 W := Lg.eq hLg (rr 244 (by decide) (by decide)) (rr 245 (by decide) (by decide)) rfl fun _ _ _ => rfl
  have hd3 : reS I n fa 235 3 = nI (dn W) := (Sd.fd D0 (f := 3) (g := 1) (by decide)).trans hG.1.2.2.2
  refine a_l0 rfl rfl rfl ?_
  refine a_getq rfl gfX11_37_11 rfl (rfl) ?_
  refine a_s rfl rfl ?_
  refine a_eV1 rfl lX11_200 mo_X5_bitsIn (sp_X5_bitsIn (nd := dn W) (a := 235) (by decide) hd3 hG.1.2.1) rfl rfl rfl ⟨5, _, rfl, rfl, rfl⟩ rfl ?_
  refine a_s2 rfl rfl rfl rfl rfl rfl ?_
  refine a_s rfl rfl ?_
  refine a_s3 rfl rfl rfl rfl rfl rfl ?_
  generalize hB : inS (dn W) (reS I n fa (235 + 8)) 1 = B
  refine a_inv (n := m) (fun i ls h => ∃ j J, ls = [some (.ref 200), some (.int (nI m)), some (.int B), some (.int (nI j))] ∧ h = hp J L w1 w2 t ∧ j ≤ m ∧ i = m - j ∧ Sd J 235 (dsW false cd fa' fn nl W j) ∧ Lg J 235 (dsW false cd fa' fn nl W j) ∧ ∀ q, (q < 235 ∨ 245 < q) → q ≠ 252 → q ≠ 253 → J q = reS I n fa q) ⟨0, _, rfl, rfl, Nat.zero_le _, rfl, D0, L0, fun _ _ _ _ => rfl⟩ ?_
  rintro i _ _ ⟨j, J, rfl, rfl, hj, hi, DJ, LJ, hfJ⟩ ih
  have okj := dsW_ok (calm := false) (cd := cd) (fa' := fa') (fn := fn) ok0 j
  refine a_l3 rfl rfl rfl ?_
  refine a_l1 rfl rfl rfl ?_
  refine a_ic_ge rfl (fun c => ?_) (fun c => ?_)
  · have hge := nI_ge_of c (by omega) (by omega)
    obtain rfl : j = m := by omega
    have hd9 : J 235 3 = nI (dn W) := ((Sd.fd DJ (f := 3) (g := 1) (by decide)).trans okj.1.1.2.2.2).trans (by rw [okj.2.2.1])
    refine a_l0 rfl rfl rfl ?_
    refine a_getq rfl gfX11_37_11 rfl (rfl) ?_
    refine a_s rfl rfl ?_
    refine a_eV1 rfl lX11_200 mo_X5_bitsIn (sp_X5_bitsIn (nd := dn W) (a := 235) (by decide) hd9 hG.1.2.1) rfl rfl rfl ⟨5, _, rfl, rfl, rfl⟩ rfl ?_
    refine a_l2 rfl rfl rfl ?_
    refine a_s rfl rfl ?_
    refine a_s rfl rfl ?_
    refine a_s rfl rfl ?_
    refine a_eS1 rfl lX11_261 mo_J6_bitCount_0f7a4 (sp_bitCount) rfl rfl rfl rfl ?_
    exact a_iret rfl rfl ⟨_, rfl, j, m1, m2, rfl, J, rfl, hfJ, DJ, LJ⟩
  have hjm := nI_lt_of c (by omega) (by omega)
  have es : dsW false cd fa' fn nl W (j + 1) = dyP cd fa' fn nl (dayW false (gwL cd fa' fn nl) (dsW false cd fa' fn nl W j)) := rfl
  have on : ∀ (K : Nat → Nat → Int32), Sd K 235 (dsW false cd fa' fn nl W (j + 1)) → Lg K 235 (dsW false cd fa' fn nl W (j + 1)) → (∀ q, (q < 235 ∨ 245 < q) → q ≠ 252 → q ≠ 253 → K q = reS I n fa q) → AW S m_X11_days 20 (fun v h' => ∃ y, v = some (.int y) ∧ ∃ m', 1 ≤ m' ∧ m' ≤ 90 ∧ nI m = nI m' ∧ ∃ J, h' = hp J L w1 w2 t ∧ (∀ q, (q < 235 ∨ 245 < q) → q ≠ 252 → q ≠ 253 → J q = reS I n fa q) ∧ Sd J 235 (dsW false cd fa' fn nl W m') ∧ Lg J 235 (dsW false cd fa' fn nl W m')) (fun E h' => E = exN 1 ∧ inB (nI m) 1 90 = false ∧ h' = hp I L w1 w2 0) 0 0 54 [some (.ref 200), some (.int (nI m)), some (.int B), some (.int (nI j))] [] (hp K L w1 w2 t) := by
    intro K hK hLK hfK
    refine a_iv3 (y := nI (j + 1)) rfl rfl rfl ((nI_succ j).symm) ?_
    refine a_goto rfl ?_
    exact ih (m - (j + 1)) _ _ (by omega) ⟨j + 1, K, rfl, rfl, by omega, rfl, hK, hLK, hfK⟩
  generalize dsW false cd fa' fn nl W j = V at DJ LJ okj es
  have lawJ : LwS J 246 V nl len cd fa' fn := LwS.eq hL (fun q g1 g2 => (hfJ q (by omega) (by omega) (by omega)).trans (rr q (by omega) (by omega))) okj.2.2.2.2.1 okj.2.2.2.2.2
  refine a_l0 rfl rfl rfl ?_
  refine a_getq rfl gfX11_37_11 rfl (rfl) ?_
  refine a_l0 rfl rfl rfl ?_
  refine a_getq rfl gfX11_44_11 rfl (rfl) ?_
  refine a_s rfl rfl ?_
  refine a_gV rfl lX11_254 mo_X5_passDay (f_passDay (a := 235) (b := 246) (dr := true) (by decide) (by decide) DJ okj.1 lawJ okj.2.2.2.1) rfl rfl rfl ⟨5, _, rfl, rfl, rfl⟩ rfl (fun v' h' hv => ?_)
  obtain ⟨rfl, K, rfl, hfK, DK⟩ := hv
  have DK : Sd K 235 (dayW false (gwL cd fa' fn nl) V) := DK
  have ok1 : DyOk nl V (dayW false (gwL cd fa' fn nl) V) := dayW_ok okj.dy
  have LK : Lg K 235 (dayW false (gwL cd fa' fn nl) V) := Lg.eq LJ (hfK 244 (by decide) (by decide) (by decide)) (hfK 245 (by decide) (by decide) (by decide)) (dayW_lg okj.dy (Or.inl rfl)) fun k h1 _ => dayW_lg okj.dy (Or.inr h1)
  have lawK : LwS K 246 (dayW false (gwL cd fa' fn nl) V) nl len cd fa' fn := LwS.eq lawJ (fun q g1 g2 => hfK q (by omega) (by omega) (by omega)) ok1.2.2.2.2.1 ok1.2.2.2.2.2
  have hfK2 : ∀ q, (q < 235 ∨ 245 < q) → q ≠ 252 → q ≠ 253 → K q = reS I n fa q := fun q g1 g2 g3 => (hfK q (by omega) g2 g3).trans (hfJ q g1 g2 g3)
  generalize dayW false (gwL cd fa' fn nl) V = U at DK ok1 LK lawK es
  refine a_l0 rfl rfl rfl ?_
  refine a_getq rfl gfX11_37_11 rfl (rfl) ?_
  refine a_getiv (v := U 4) rfl gfX11_185_5 rfl (Sd.fd DK (by decide)) ?_
  refine a_s rfl rfl ?_
  refine a_ic_ne rfl (fun c2 => ?_) (fun c2 => ?_)
  · have e : dsW false cd fa' fn nl W (j + 1) = U := by
      rw [es]
      unfold dyP
      rw [if_neg c2]
    exact on K (by rw [e]; exact DK) (by rw [e]; exact LK) hfK2
  have e : dsW false cd fa' fn nl W (j + 1) = ltF cd fa' fn nl U (dn U) := by
    rw [es]
    unfold dyP
    rw [if_pos c2]
  refine a_l0 rfl rfl rfl ?_
  refine a_gV rfl lX11_258 mo_X11_letParadeGoBy (f_parade DK LK ok1.1 lawK) rfl rfl rfl ⟨11, _, rfl, rfl, rfl⟩ rfl (fun v' h' hv => ?_)
  obtain ⟨rfl, N, rfl, hfN, DN, LN⟩ := hv
  exact on N (by rw [e]; exact DN) (by rw [e]; exact LN) (fun q g1 g2 g3 => (hfN q (by omega) (by omega) g2 g3).trans (hfK2 q g1 g2 g3))
theorem f_call (hD : Sd I 235 W) (hG : Rg W) (h13 : I 200 13 = nI n) (hn : n ≤ 12) (h12 : I 200 12 = nI fa) (hf : fa < 12) {x1 : Int32} : Sp S m_X11_call 19 2 12 [.ref 200, .int x1] (hp I L w1 w2 t) (QAc I n fa (vC (dn W) W x1) (passR (dn W) W (ixN x1)) (fun J => up2 (up2 J 239 (ixN x1) 0) 243 (ixN x1) 1) L w1 w2 t) (XAc I (vC (dn W) W x1) [(1, 0), (2, 2)] L w1 w2) := by
  have hd12 := hG.1.2.1
  have hd3 : I 235 3 = nI (dn W) := (Sd.fd hD (f := 3) (g := 1) (by decide)).trans hG.1.2.2.2
  refine Sp_of ok_X11_call rfl rfl ?_
  show AW S m_X11_call 19 _ _ 2 12 0 [some (.ref 200), some (.int x1), none] [] (hp I L w1 w2 t)
  refine a_l0 rfl rfl rfl ?_
  refine a_l1 rfl rfl rfl ?_
  refine a_callV rfl lX11_141 mo_X11_needDuty (f_needDuty hd3 (by omega)) rfl rfl rfl ⟨11, _, rfl, rfl, rfl⟩ rfl (fun v' h' hv => ?_) (fun E h' ex => ?_)
  rotate_left
  · obtain ⟨rfl, hz, rfl⟩ := ex
    exact ⟨⟨_, List.mem_cons_self, (if_neg (by rw [hz]; exact Bool.false_ne_true)), rfl⟩, rfl⟩
  obtain ⟨rfl, hz, rfl⟩ := hv
  obtain ⟨i, hi, rfl⟩ := inB_ix (by omega) hz
  have hx := ixN_nI (i := i) (by omega)
  refine a_l0 rfl rfl rfl ?_
  refine a_getq rfl gfX11_37_11 rfl (rfl) ?_
  refine a_eV1 rfl lX11_220 mo_X5_canBits (sp_X5_canBits (nd := dn W) (a := 235) (by decide) hd3 hd12) rfl rfl rfl ⟨5, _, rfl, rfl, rfl⟩ rfl ?_
  rw [can_same hD hG]
  refine a_l1 rfl rfl rfl ?_
  refine a_eS1 rfl lX11_223 mo_X11_has sp_X11_has rfl rfl rfl rfl ?_
  rw [hasF_bs hd12 hi]
  by_cases cw : canR (dn W) W i = true
  rotate_left
  · rw [Bool.eq_false_iff.mpr cw]
    refine a_if_ne rfl (fun c => absurd rfl c) (fun _ => ?_)
    exact a_throw rfl rfl rfl rfl tX11_ise rfl rfl rfl rfl rfl ⟨⟨_, (List.mem_cons_of_mem _ List.mem_cons_self), ((if_pos hz).trans (if_neg (by rw [hx]; exact cw))), rfl⟩, rfl⟩
  rw [cw]
  refine a_if_ne rfl (fun _ => ?_) (fun c => absurd c (by decide))
  refine a_l0 rfl rfl rfl ?_
  refine a_getq rfl gfX11_37_11 rfl (rfl) ?_
  refine a_l1 rfl rfl rfl ?_
  refine a_eV1 rfl lX11_176 mo_X5_passesOf (sp_X5_passesOf (nd := dn W) (a := 235) (by decide) hd3 hd12) rfl rfl rfl ⟨5, _, rfl, rfl, rfl⟩ rfl ?_
  rw [pass_same hD hG hi]
  refine a_s2 rfl rfl rfl rfl rfl rfl ?_
  refine a_l0 rfl rfl rfl ?_
  refine a_eV0 rfl lX11_230 mo_X11_rememberAct (f_remember h13 hn h12 hf) rfl rfl rfl ⟨11, _, rfl, rfl, rfl⟩ rfl ?_
  refine a_l0 rfl rfl rfl ?_
  refine a_getq rfl gfX11_37_11 rfl (rfl) ?_
  refine a_l1 rfl rfl rfl ?_
  refine a_eV0 rfl lX11_233 mo_X5_finish (sp_X5_finish (a := 235) (by decide)) rfl rfl rfl ⟨5, _, rfl, rfl, rfl⟩ rfl ?_
  have eg : finF (reS I n fa) 235 (nI i) = up2 (up2 (reS I n fa) 239 i 0) 243 i 1 := by
    unfold finF
    rw [setF_nI (show i < 12 by omega) (by decide), setF_nI (show i < 12 by omega) (by decide)]
  rw [eg]
  refine a_l2 rfl rfl rfl ?_
  exact a_iret rfl rfl (QAc.yes ((if_pos hz).trans (if_pos (by rw [hx]; exact cw))) (by rw [hx]) (by rw [hx]))
end T79zg
end
section
/-! ===== what holds of both states between two operations ===== -/
section T79zh
variable {I J : Nat → Nat → Int32} {a b : Nat} {W V : Nat → Int32}
set_option maxRecDepth 100000
/-- the street and the log at a are those that W tells, and W keeps its ranges -/
def Nm (I : Nat → Nat → Int32) (a : Nat) (W : Nat → Int32) : Prop := Sd I a W ∧ Lg I a W ∧ Rg W
/-- the law at b is the one that W tells -/
def Nl (I : Nat → Nat → Int32) (b : Nat) (W : Nat → Int32) : Prop := ∃ nl len cd fa fn, LwS I b W nl len cd fa fn ∧ LwN W nl
def ImS (I : Nat → Nat → Int32) : Prop := (I 200 10 = 0 ∧ I 420 6 = 0) ∨ (¬ I 200 10 = 0 ∧ ¬ I 420 6 = 0 ∧ Nm I 268 (I 422) ∧ Nl I 279 (I 422))
def PsS (I : Nat → Nat → Int32) : Prop := ∃ n fa, n ≤ 12 ∧ fa < 12 ∧ I 200 13 = nI n ∧ I 420 7 = nI n ∧ I 200 12 = nI fa ∧ ∀ i, i < n → Nm I (288 + 11 * ((fa + i) % 12)) (fun k => I 425 (335 * i + k)) ∧ I 425 (335 * i + 3) = I 421 3
def Sim (I : Nat → Nat → Int32) : Prop := Nm I 235 (I 421) ∧ Nl I 246 (I 421) ∧ ImS I ∧ PsS I
theorem Nm.eq (h : Nm I a W) (f : ∀ q, a ≤ q → q ≤ a + 10 → J q = I q) : Nm J a W :=
  ⟨h.1.eq fun q g1 g2 => f q g1 (by omega), h.2.1.eq (f _ (by omega) (by omega)) (f _ (by omega) (by omega)) rfl fun _ _ _ => rfl, h.2.2⟩
theorem Nl.eq (h : Nl I b W) (f : ∀ q, b ≤ q → q ≤ b + 5 → J q = I q) (e3 : V 3 = W 3) (e : ∀ k, 335 ≤ k → V k = W k) : Nl J b V := by
  obtain ⟨nl, len, cd, fa, fn, h1, h2, h3⟩ := h
  refine ⟨nl, len, cd, fa, fn, h1.eq f e3 e, h2, fun n hn => ?_⟩
  rw [show nuW V n = nuW W n from e _ (by omega)]
  exact h3 n hn
theorem Nm.lg (h : Nm I a W) : LgW W := by
  obtain ⟨r, _, h1, _, _, _, h5, _⟩ := h.2.1
  exact ⟨r, h1, h5⟩
theorem Nm.st (h : Nm I a W) : StW W := ⟨_, _, h.2.2.so, h.2.2.fr, h.lg⟩
theorem Nl.lw (h : Nl I b W) : LwW W := by
  obtain ⟨nl, len, cd, fa, fn, h1, _⟩ := h
  exact ⟨nl, len, cd, fa, fn, h1.2.1⟩
theorem Sim.ri (h : Sim I) : RI (dn (I 421)) (pn (I 421)) I := by
  obtain ⟨h1, h2, h3, n, fa, hn, hf, e1, e2, e3, h4⟩ := h
  refine ⟨h1.2.2.so, h1.2.2.fr, h2.lw, h1.lg, ?_, n, hn, e2, fun i hi => ⟨(h4 i hi).1.st, (h4 i hi).2⟩⟩
  rcases h3 with h3 | h3
  · exact Or.inl h3.2
  · exact Or.inr ⟨h3.2.2.1.st, h3.2.2.2.lw⟩
/-- what the relation reads -/
theorem Sim.eq (h : Sim I) (f : ∀ q, 235 ≤ q → q < 420 → (q < 252 ∨ 268 ≤ q) → J q = I q) (f1 : J 421 = I 421) (f2 : J 422 = I 422) (f5 : J 425 = I 425) (g1 : J 200 10 = I 200 10) (g2 : J 200 12 = I 200 12) (g3 : J 200 13 = I 200 13) (g4 : J 420 6 = I 420 6) (g5 : J 420 7 = I 420 7) : Sim J := by
  obtain ⟨h1, h2, h3, n, fa, hn, hf, e1, e2, e3, h4⟩ := h
  unfold Sim ImS PsS
  rw [f1, f2, f5, g1, g2, g3, g4, g5]
  refine ⟨h1.eq fun q k1 k2 => f q (by omega) (by omega) (by omega), h2.eq (fun q k1 k2 => f q (by omega) (by omega) (by omega)) rfl fun _ _ => rfl, ?_, n, fa, hn, hf, e1, e2, e3, fun i hi => ⟨(h4 i hi).1.eq fun q k1 k2 => f q (by omega) (by omega) (by omega), (h4 i hi).2⟩⟩
  rcases h3 with h3 | ⟨k1, k2, k3, k4⟩
  · exact Or.inl h3
  · exact Or.inr ⟨k1, k2, k3.eq fun q k1 k2 => f q (by omega) (by omega) (by omega), k4.eq (fun q k1 k2 => f q (by omega) (by omega) (by omega)) rfl fun _ _ => rfl⟩
end T79zh
end
section
/-! ===== the relation's past: an act remembers on both sides ===== -/
section T79zi
variable {I J : Nat → Nat → Int32} {a b n fa : Nat} {W V : Nat → Int32}
set_option maxRecDepth 100000
theorem Sd.eqW (h : Sd I a W) (e : ∀ k, k < 95 → V k = W k) : Sd I a V := by
  obtain ⟨h1, h2, h3⟩ := h
  have hb : ∀ x ∈ flds, x.2 < 95 := by decide
  refine ⟨fun x hx => ?_, fun p hp => ?_, fun d hd k hk => ?_⟩
  · rw [e _ (hb x hx)]
    exact h1 x hx
  · rw [e _ (by omega), e _ (by omega)]
    exact h2 p hp
  · rw [e _ (by omega)]
    exact h3 d hd k hk
theorem Nm.eqW (h : Nm I a W) (e : ∀ k, k < 335 → V k = W k) : Nm I a V :=
  ⟨h.1.eqW fun k hk => e k (by omega), h.2.1.eq rfl rfl (e 9 (by decide)) fun k _ hk => e k hk, (h.2.2.log fun k hk _ => e k (by omega)).1⟩
theorem Nm.at (h : Nm I b W) (f : ∀ i, i ≤ 10 → J (a + i) = I (b + i)) : Nm J a W := by
  refine ⟨?_, ?_, h.2.2⟩
  · obtain ⟨h1, h2, h3⟩ := h.1
    refine ⟨fun x hx => ?_, fun p hp => ?_, fun d hd k hk => ?_⟩
    · rw [show J a = I b from f 0 (by decide)]
      exact h1 x hx
    · rw [f 1 (by decide), f 2 (by decide)]
      exact h2 p hp
    · rw [Nat.add_assoc, f (3 + k) (by omega), ← Nat.add_assoc]
      exact h3 d hd k hk
  · obtain ⟨r, m, h1, h2, h3, h4, h5, h6⟩ := h.2.1
    refine ⟨r, m, h1, h2, by rw [f 9 (by decide)]; exact h3, by rw [f 9 (by decide)]; exact h4, h5, fun k hk j hj => ?_⟩
    rw [f 10 (by decide)]
    exact h6 k hk j hj
def PsN (I : Nat → Nat → Int32) (n fa : Nat) : Prop := n ≤ 12 ∧ fa < 12 ∧ I 200 13 = nI n ∧ I 420 7 = nI n ∧ I 200 12 = nI fa ∧ ∀ i, i < n → Nm I (288 + 11 * ((fa + i) % 12)) (fun k => I 425 (335 * i + k)) ∧ I 425 (335 * i + 3) = I 421 3
theorem remH_7 : remH I n 420 7 = (if n = 12 then I 420 7 else nI (n + 1)) := by
  unfold remH
  by_cases e : n = 12
  · rw [if_pos e, if_pos e, cpR_row (by decide), cpR_row (by decide)]
  · rw [if_neg e, if_neg e, cpR_row (by decide), up2_at]
theorem PsN.rem (h : PsN I n fa) (hn : Nm I 235 (I 421)) (f : ∀ q, 288 ≤ q → q < 420 → J q = reS I n fa q) (g2 : J 200 12 = reS I n fa 200 12) (g3 : J 200 13 = reS I n fa 200 13) (f5 : J 425 = remH I n 425) (g7 : J 420 7 = remH I n 420 7) (f3 : J 421 3 = I 421 3) : PsS J := by
  obtain ⟨h1, h2, e1, e2, e3, h4⟩ := h
  rw [remH_7] at g7
  by_cases e : n = 12
  · subst e
    rw [if_pos rfl, e2] at g7
    unfold reS at g2 g3 f
    rw [if_pos rfl] at g2 g3
    unfold remH at f5
    rw [if_pos rfl] at f5
    refine ⟨12, (fa + 1) % 12, by decide, by omega, g3.trans (up2_at), g7, ?_, fun i hi => ?_⟩
    · rw [g2, up2_ne (by decide), cpS_out (by omega), up2_ne (by decide), up2_at]
    have hb : ∀ k, k < 335 → J 425 (335 * i + k) = if i < 11 then I 425 (335 * (i + 1) + k) else I 421 k := by
      intro k hk
      rw [f5]
      by_cases h11 : i < 11
      · rw [if_pos h11, cpR_out (by omega), show 335 * i + k = 0 + (335 * i + k) by omega, cpR_in (by omega), show 335 * i + k + 335 = 335 * (i + 1) + k by omega]
      · obtain rfl : i = 11 := by omega
        rw [if_neg h11, cpR_in (by omega), cpR_row (by decide)]
        rfl
    by_cases h11 : i < 11
    · have ha := h4 (i + 1) (by omega)
      refine ⟨?_, ?_⟩
      · refine Nm.eqW (W := fun k => I 425 (335 * (i + 1) + k)) ?_ fun k hk => by rw [hb k hk, if_pos h11]
        refine ha.1.at fun j hj => ?_
        rw [f _ (by omega) (by omega), if_pos rfl, up2_row (by omega), cpS_out (by omega), up2_row (by omega), up2_row (by omega)]
        congr 1
        omega
      · rw [hb 3 (by decide), if_pos h11, f3]
        exact ha.2
    · obtain rfl : i = 11 := by omega
      refine ⟨?_, ?_⟩
      · refine Nm.eqW (W := I 421) ?_ fun k hk => by rw [hb k hk, if_neg h11]
        refine hn.at fun j hj => ?_
        rw [f _ (by omega) (by omega), if_pos rfl, up2_row (by omega), cpS_in (by omega), up2_row (by omega), up2_row (by omega)]
      · rw [hb 3 (by decide), if_neg h11, f3]
  · rw [if_neg e] at g7
    unfold reS at g2 g3 f
    rw [if_neg e] at g2 g3
    unfold remH at f5
    rw [if_neg e] at f5
    refine ⟨n + 1, fa, by omega, h2, g3.trans (up2_at), g7, ?_, fun i hi => ?_⟩
    · rw [g2, up2_ne (by decide), cpS_out (by omega), e3]
    have hb : ∀ k, k < 335 → J 425 (335 * i + k) = if i < n then I 425 (335 * i + k) else I 421 k := by
      intro k hk
      rw [f5]
      by_cases h11 : i < n
      · rw [if_pos h11, cpR_out (by omega), up2_row (by decide)]
      · obtain rfl : i = n := by omega
        rw [if_neg h11, cpR_in (by omega), up2_row (by decide)]
        rfl
    by_cases h11 : i < n
    · have ha := h4 i h11
      refine ⟨?_, ?_⟩
      · refine Nm.eqW (W := fun k => I 425 (335 * i + k)) ?_ fun k hk => by rw [hb k hk, if_pos h11]
        refine ha.1.at fun j hj => ?_
        rw [f _ (by omega) (by omega), if_neg e, up2_row (by omega), cpS_out (by omega)]
      · rw [hb 3 (by decide), if_pos h11, f3]
        exact ha.2
    · obtain rfl : i = n := by omega
      refine ⟨?_, ?_⟩
      · refine Nm.eqW (W := I 421) ?_ fun k hk => by rw [hb k hk, if_neg h11]
        refine hn.at fun j hj => ?_
        rw [f _ (by omega) (by omega), if_neg e, up2_row (by omega), cpS_in (by omega)]
      · rw [hb 3 (by decide), if_neg h11, f3]
end T79zi
end
section
/-! ===== the relation is kept by undo, back, image, seed ===== -/
section T79zj
variable {I J : Nat → Nat → Int32} {a b n fa : Nat} {W V : Nat → Int32}
set_option maxRecDepth 100000
theorem ImS.eq (h : ImS I) (f : ∀ q, 268 ≤ q → q < 285 → J q = I q) (f2 : J 422 = I 422) (g1 : J 200 10 = I 200 10) (g4 : J 420 6 = I 420 6) : ImS J := by
  unfold ImS
  rw [f2, g1, g4]
  rcases h with h3 | ⟨k1, k2, k3, k4⟩
  · exact Or.inl h3
  · exact Or.inr ⟨k1, k2, k3.eq fun q k1 k2 => f q (by omega) (by omega), k4.eq (fun q k1 k2 => f q (by omega) (by omega)) rfl fun _ _ => rfl⟩
theorem Sim.thr (h : Sim I) {x : Int32} : Sim (up2 I 420 0 x) := h.eq (fun q _ _ _ => up2_row (by omega)) (up2_row (by decide)) (up2_row (by decide)) (up2_row (by decide)) (up2_ne (by decide)) (up2_ne (by decide)) (up2_ne (by decide)) (up2_ne (by decide)) (up2_ne (by decide))
theorem Sim.undo (h : Sim I) (hp : PsN I n fa) : Sim (unH (unS I n fa) n) := by
  unfold unH unS
  by_cases e : n = 0
  · rw [if_pos e, if_pos e]
    exact h.thr
  rw [if_neg e, if_neg e]
  obtain ⟨h1, h2, h3, _⟩ := h
  obtain ⟨hn, hf, e1, e2, e3, h4⟩ := hp
  have hl := h4 (n - 1) (by omega)
  generalize hK : cpR (up2 (up2 (cpS (up2 I 200 13 (nI (n - 1))) 235 (288 + 11 * ((fa + (n - 1)) % 12)) 11) 420 0 0) 420 7 (nI (n - 1))) 421 0 425 (335 * (n - 1)) 335 = K
  have row : ∀ q, q ≠ 200 → q ≠ 420 → q ≠ 421 → (q < 235 ∨ 245 < q) → K q = I q := by
    intro q k1 k2 k3 k4
    rw [← hK, cpR_row k3, up2_row k2, up2_row k2, cpS_out (by omega), up2_row k1]
  have now : ∀ i, i ≤ 10 → K (235 + i) = I (288 + 11 * ((fa + (n - 1)) % 12) + i) := by
    intro i hi
    rw [← hK, cpR_row (by omega), up2_row (by omega), up2_row (by omega), cpS_in (by omega), up2_row (by omega)]
  have lo : ∀ k, k < 335 → K 421 k = I 425 (335 * (n - 1) + k) := by
    intro k hk
    have := cpR_in (I := up2 (up2 (cpS (up2 I 200 13 (nI (n - 1))) 235 (288 + 11 * ((fa + (n - 1)) % 12)) 11) 420 0 0) 420 7 (nI (n - 1))) (p := 421) (a := 0) (q := 425) (b := 335 * (n - 1)) (n := 335) hk
    rw [Nat.zero_add, hK] at this
    rw [this, up2_row (by decide), up2_row (by decide), cpS_out (by omega), up2_row (by decide), Nat.add_comm]
  have hi : ∀ k, 335 ≤ k → K 421 k = I 421 k := by
    intro k hk
    rw [← hK, cpR_out (by omega), up2_row (by decide), up2_row (by decide), cpS_out (by omega), up2_row (by decide)]
  have k3 : K 421 3 = I 421 3 := (lo 3 (by decide)).trans hl.2
  refine ⟨(hl.1.at now).eqW lo, h2.eq (fun q g1 g2 => row q (by omega) (by omega) (by omega) (by omega)) k3 hi, h3.eq (fun q g1 g2 => row q (by omega) (by omega) (by omega) (by omega)) (row _ (by decide) (by decide) (by decide) (by decide)) ?_ ?_, n - 1, fa, by omega, hf, ?_, ?_, ?_, fun i hi => ?_⟩
  · rw [← hK, cpR_row (by decide), up2_row (by decide), up2_row (by decide), cpS_out (by omega), up2_ne (by decide)]
  · rw [← hK, cpR_row (by decide), up2_ne (by decide), up2_ne (by decide), cpS_out (by omega), up2_row (by decide)]
  · rw [← hK, cpR_row (by decide), up2_row (by decide), up2_row (by decide), cpS_out (by omega), up2_at]
  · rw [← hK, cpR_row (by decide), up2_at]
  · rw [← hK, cpR_row (by decide), up2_row (by decide), up2_row (by decide), cpS_out (by omega), up2_ne (by decide), e3]
  · have ha := h4 i (by omega)
    rw [row 425 (by decide) (by decide) (by decide) (by decide), k3]
    exact ⟨ha.1.eq fun q g1 g2 => row q (by omega) (by omega) (by omega) (by omega), ha.2⟩
theorem Sim.seed (h : Sim I) {x : Int32} : Sim (up2 (up2 (up2 I 235 15 x) 420 0 0) 421 10 x) := by
  obtain ⟨h1, h2, h3, n, fa, hn, hf, e1, e2, e3, h4⟩ := h
  have row : ∀ q, q ≠ 235 → q ≠ 420 → q ≠ 421 → up2 (up2 (up2 I 235 15 x) 420 0 0) 421 10 x q = I q := fun q g1 g2 g3 => by rw [up2_row g3, up2_row g2, up2_row g1]
  have e : up2 (up2 (up2 I 235 15 x) 420 0 0) 421 10 x 421 = ud (I 421) 10 x := by rw [up2_ud, up2_row (by decide), up2_row (by decide)]
  refine ⟨⟨?_, ?_, ?_⟩, ?_, h3.eq (fun q _ _ => row q (by omega) (by omega) (by omega)) (row _ (by decide) (by decide) (by decide)) ?_ ?_, n, fa, hn, hf, ?_, ?_, ?_, fun i hi => ?_⟩
  · rw [e]
    refine Sd.eq ?_ (fun q g1 g2 => by rw [up2_row (by omega), up2_row (by omega)]) (I := up2 I 235 15 x)
    exact Sd.pu h1.1 (f := 15) (g := 10) (by decide)
  · rw [e]
    exact h1.2.1.eq (row _ (by decide) (by decide) (by decide)) (row _ (by decide) (by decide) (by decide)) (if_neg (by decide)) fun k g1 g2 => if_neg (by omega)
  · rw [e]
    exact (h1.2.2.hi rfl).1
  · rw [e]
    exact h2.eq (fun q g1 g2 => row q (by omega) (by omega) (by omega)) (if_neg (by decide)) fun k g => if_neg (by omega)
  · rw [row 200 (by decide) (by decide) (by decide)]
  · rw [up2_row (by decide), up2_ne (by decide), up2_row (by decide)]
  · rw [row 200 (by decide) (by decide) (by decide)]; exact e1
  · rw [up2_row (by decide), up2_ne (by decide), up2_row (by decide)]; exact e2
  · rw [row 200 (by decide) (by decide) (by decide)]; exact e3
  · rw [e, row 425 (by decide) (by decide) (by decide)]
    refine ⟨(h4 i hi).1.eq fun q g1 g2 => row q (by omega) (by omega) (by omega), ?_⟩
    rw [show ud (I 421) 10 x 3 = I 421 3 from if_neg (by decide)]
    exact (h4 i hi).2
end T79zj
end
section
/-! ===== the relation is kept by image and back ===== -/
section T79zk
variable {I J : Nat → Nat → Int32} {a b n fa : Nat} {W V : Nat → Int32}
set_option maxRecDepth 100000
theorem Nl.at (h : Nl I b W) (f0 : J a 0 = I b 0) (f : ∀ i, 1 ≤ i → i ≤ 5 → J (a + i) = I (b + i)) (e3 : V 3 = W 3) (e : ∀ k, 335 ≤ k → k < 1184 → V k = W k) : Nl J a V := by
  obtain ⟨nl, len, cd, fa, fn, ⟨⟨c1, c2, c3, c4, c5⟩, ⟨r1, _, _, r4, r5⟩, h3, h4⟩, g1, g2⟩ := h
  refine ⟨nl, len, cd, fa, fn, ⟨⟨?_, c2, c3, fun i hi => ?_, fun n hn => ?_⟩, ⟨?_, c2, c3, fun i hi => ?_, fun n hn => ?_⟩, fun n hn => ?_, ?_⟩, g1, fun n hn => ?_⟩
  · rw [f0]
    exact c1
  · rw [f 5 (by decide) (by decide)]
    exact c4 i hi
  · rw [f 3 (by decide) (by decide), f 4 (by decide) (by decide)]
    exact c5 n hn
  · rw [e3, e 335 (by decide) (by decide)]
    exact r1
  · rw [e _ (by omega) (by omega), e _ (by omega) (by omega)]
    exact r4 i hi
  · rw [e _ (by omega) (by omega), e _ (by omega) (by omega)]
    exact r5 n hn
  · rw [f 1 (by decide) (by decide), f 2 (by decide) (by decide), show kiW V n = kiW W n from e _ (by omega) (by omega), show nuW V n = nuW W n from e _ (by omega) (by omega)]
    exact h3 n hn
  · rw [f0, e3]
    exact h4
  · rw [show nuW V n = nuW W n from e _ (by omega) (by omega)]
    exact g2 n hn
theorem Sim.image (h : Sim I) : Sim (imH (imS I)) := by
  obtain ⟨h1, h2, _, n, fa, hn, hf, e1, e2, e3, h4⟩ := h
  generalize hK : imH (imS I) = K
  have row : ∀ q, q ≠ 200 → q ≠ 420 → q ≠ 422 → (q < 268 ∨ 284 < q) → K q = I q := by
    intro q k1 k2 k3 k4
    rw [← hK]
    unfold imH imS cpL
    rw [up2_row k2, cpR_row k3, up2_row k2, up2_row k1, up2_row (by omega), cpS_out (by omega), cpS_out (by omega)]
  have r2 : ∀ k, k ≠ 10 → K 200 k = I 200 k := by
    intro k hk
    rw [← hK]
    unfold imH imS cpL
    rw [up2_row (by decide), cpR_row (by decide), up2_row (by decide), up2_ne (Or.inr hk), up2_row (by decide), cpS_out (by omega), cpS_out (by omega)]
  have r4 : ∀ k, k ≠ 0 → k ≠ 6 → K 420 k = I 420 k := by
    intro k hk h6
    rw [← hK]
    unfold imH imS cpL
    rw [up2_ne (Or.inr h6), cpR_row (by decide), up2_ne (Or.inr hk), up2_row (by decide), up2_row (by decide), cpS_out (by omega), cpS_out (by omega)]
  have lo : ∀ k, k < 1184 → K 422 k = I 421 k := by
    intro k hk
    have hh := cpR_in (I := up2 (imS I) 420 0 0) (p := 422) (a := 0) (q := 421) (b := 0) (n := 1184) hk
    rw [Nat.zero_add] at hh
    rw [← hK]
    unfold imH
    rw [up2_row (by decide), hh, up2_row (by decide)]
    unfold imS cpL
    rw [up2_row (by decide), up2_row (by decide), cpS_out (by omega), cpS_out (by omega)]
    rfl
  have now : ∀ i, i ≤ 10 → K (268 + i) = I (235 + i) := by
    intro i hi
    rw [← hK]
    unfold imH imS cpL
    rw [up2_row (by omega), cpR_row (by omega), up2_row (by omega), up2_row (by omega), up2_row (by omega), cpS_out (by omega), cpS_in (by omega)]
  have law : ∀ i, 1 ≤ i → i ≤ 5 → K (279 + i) = I (246 + i) := by
    intro i h1 hi
    rw [← hK]
    unfold imH imS cpL
    rw [up2_row (by omega), cpR_row (by omega), up2_row (by omega), up2_row (by omega), up2_row (by omega), show 279 + i = 279 + 1 + (i - 1) by omega, cpS_in (by omega), cpS_out (by omega)]
    congr 1
    omega
  have law0 : K 279 0 = I 246 0 := by
    rw [← hK]
    unfold imH imS cpL
    rw [up2_row (by decide), cpR_row (by decide), up2_row (by decide), up2_row (by decide), up2_at, cpS_out (by omega)]
  refine ⟨?_, ?_, Or.inr ⟨?_, ?_, ?_, ?_⟩, n, fa, hn, hf, ?_, ?_, ?_, fun i hi => ?_⟩
  · rw [row 421 (by decide) (by decide) (by decide) (by decide)]
    exact h1.eq fun q g1 g2 => row q (by omega) (by omega) (by omega) (by omega)
  · rw [row 421 (by decide) (by decide) (by decide) (by decide)]
    exact h2.eq (fun q g1 g2 => row q (by omega) (by omega) (by omega) (by omega)) rfl fun _ _ => rfl
  · rw [← hK]
    unfold imH imS
    rw [up2_row (by decide), cpR_row (by decide), up2_row (by decide), up2_at]
    decide
  · rw [← hK]
    unfold imH
    rw [up2_at]
    decide
  · exact (h1.at now).eqW fun k hk => lo k (by omega)
  · exact h2.at law0 law (lo 3 (by decide)) fun k _ hk => lo k hk
  · rw [r2 _ (by decide)]; exact e1
  · rw [r4 _ (by decide) (by decide)]; exact e2
  · rw [r2 _ (by decide)]; exact e3
  · rw [row 421 (by decide) (by decide) (by decide) (by decide), row 425 (by decide) (by decide) (by decide) (by decide)]
    exact ⟨(h4 i hi).1.eq fun q g1 g2 => row q (by omega) (by omega) (by omega) (by omega), (h4 i hi).2⟩
end T79zk
end
section
/-! ===== the relation is kept by back ===== -/
section T79zl
variable {I J : Nat → Nat → Int32} {a b n fa : Nat} {W V : Nat → Int32}
set_option maxRecDepth 100000
theorem Sim.back (h : Sim I) (c : ¬ I 200 10 = 0) : ¬ I 420 6 = 0 ∧ Sim (bkH (bkS I)) := by
  obtain ⟨_, _, h3, n, fa, hn, hf, e1, e2, e3, h4⟩ := h
  rcases h3 with h3 | ⟨_, c6, m1, m2⟩
  · exact absurd h3.1 c
  refine ⟨c6, ?_⟩
  generalize hK : bkH (bkS I) = K
  have row : ∀ q, q ≠ 200 → q ≠ 420 → q ≠ 421 → (q < 235 ∨ 251 < q) → K q = I q := by
    intro q k1 k2 k3 k4
    rw [← hK]
    unfold bkH bkS cpL
    rw [up2_row k2, cpR_row k3, up2_row k2, up2_row k1, up2_row (by omega), cpS_out (by omega), cpS_out (by omega)]
  have r2 : ∀ k, k ≠ 13 → K 200 k = I 200 k := by
    intro k hk
    rw [← hK]
    unfold bkH bkS cpL
    rw [up2_row (by decide), cpR_row (by decide), up2_row (by decide), up2_ne (Or.inr hk), up2_row (by decide), cpS_out (by omega), cpS_out (by omega)]
  have r4 : ∀ k, k ≠ 0 → k ≠ 7 → K 420 k = I 420 k := by
    intro k hk h6
    rw [← hK]
    unfold bkH bkS cpL
    rw [up2_ne (Or.inr h6), cpR_row (by decide), up2_ne (Or.inr hk), up2_row (by decide), up2_row (by decide), cpS_out (by omega), cpS_out (by omega)]
  have lo : ∀ k, k < 1184 → K 421 k = I 422 k := by
    intro k hk
    have hh := cpR_in (I := up2 (bkS I) 420 0 0) (p := 421) (a := 0) (q := 422) (b := 0) (n := 1184) hk
    rw [Nat.zero_add] at hh
    rw [← hK]
    unfold bkH
    rw [up2_row (by decide), hh, up2_row (by decide)]
    unfold bkS cpL
    rw [up2_row (by decide), up2_row (by decide), cpS_out (by omega), cpS_out (by omega)]
    rfl
  have now : ∀ i, i ≤ 10 → K (235 + i) = I (268 + i) := by
    intro i hi
    rw [← hK]
    unfold bkH bkS cpL
    rw [up2_row (by omega), cpR_row (by omega), up2_row (by omega), up2_row (by omega), up2_row (by omega), cpS_out (by omega), cpS_in (by omega)]
  have law : ∀ i, 1 ≤ i → i ≤ 5 → K (246 + i) = I (279 + i) := by
    intro i h1 hi
    rw [← hK]
    unfold bkH bkS cpL
    rw [up2_row (by omega), cpR_row (by omega), up2_row (by omega), up2_row (by omega), up2_row (by omega), show 246 + i = 246 + 1 + (i - 1) by omega, cpS_in (by omega), cpS_out (by omega)]
    congr 1
    omega
  have law0 : K 246 0 = I 279 0 := by
    rw [← hK]
    unfold bkH bkS cpL
    rw [up2_row (by decide), cpR_row (by decide), up2_row (by decide), up2_row (by decide), up2_at, cpS_out (by omega)]
  refine ⟨(m1.at now).eqW fun k hk => lo k (by omega), m2.at law0 law (lo 3 (by decide)) fun k _ hk => lo k hk, Or.inr ⟨?_, ?_, ?_, ?_⟩, 0, fa, by decide, hf, ?_, ?_, ?_, fun i hi => absurd hi (by omega)⟩
  · rw [r2 _ (by decide)]; exact c
  · rw [r4 _ (by decide) (by decide)]; exact c6
  · rw [row 422 (by decide) (by decide) (by decide) (by decide)]
    exact m1.eq fun q g1 g2 => row q (by omega) (by omega) (by omega) (by omega)
  · rw [row 422 (by decide) (by decide) (by decide) (by decide)]
    exact m2.eq (fun q g1 g2 => row q (by omega) (by omega) (by omega) (by omega)) rfl fun _ _ => rfl
  · rw [← hK]
    unfold bkH bkS
    rw [up2_row (by decide), cpR_row (by decide), up2_row (by decide), up2_at]
    decide
  · rw [← hK]
    unfold bkH
    rw [up2_at]
    decide
  · rw [r2 _ (by decide)]; exact e3
end T79zl
end
section
/-! ===== the relation is kept by an act ===== -/
section T79zm
variable {I J K : Nat → Nat → Int32} {a b n fa : Nat} {W V : Nat → Int32}
set_option maxRecDepth 100000
theorem remH_row {q : Nat} (h1 : q ≠ 420) (h2 : q ≠ 425) : remH I n q = I q := by
  unfold remH
  by_cases e : n = 12
  · rw [if_pos e, cpR_row h2, cpR_row h2]
  · rw [if_neg e, cpR_row h2, up2_row h1]
theorem remH_el {k : Nat} (h : k ≠ 7) : remH I n 420 k = I 420 k := by
  unfold remH
  by_cases e : n = 12
  · rw [if_pos e, cpR_row (by decide), cpR_row (by decide)]
  · rw [if_neg e, cpR_row (by decide), up2_ne (Or.inr h)]
theorem remH_425 (h5 : J 425 = I 425) (h1 : J 421 = I 421) : remH J n 425 = remH I n 425 := by
  unfold remH
  by_cases e : n = 12
  · rw [if_pos e, if_pos e]
    unfold cpR upr
    rw [if_pos rfl, if_pos rfl, if_pos rfl, if_pos rfl, if_neg (by decide), if_neg (by decide), h5, h1]
  · rw [if_neg e, if_neg e]
    unfold cpR upr
    rw [if_pos rfl, if_pos rfl, up2_row (by decide), up2_row (by decide), up2_row (by decide), up2_row (by decide), h5, h1]
theorem reS_el {k : Nat} (h1 : k ≠ 12) (h2 : k ≠ 13) : reS I n fa 200 k = I 200 k := by
  unfold reS
  by_cases e : n = 12
  · rw [if_pos e, up2_ne (Or.inr h2), cpS_out (by omega), up2_ne (Or.inr h2), up2_ne (Or.inr h1)]
  · rw [if_neg e, up2_ne (Or.inr h2), cpS_out (by omega)]
theorem Sim.act (h : Sim I) (hp : PsN I n fa) (f : ∀ q, (q < 235 ∨ 245 < q) → q ≠ 252 → q ≠ 253 → J q = reS I n fa q) (g : ∀ q, q ≠ 421 → q ≠ 428 → q ≠ 429 → K q = remH (up2 J 420 0 0) n q) (D : Nm J 235 (K 421)) (e3 : K 421 3 = I 421 3) (e : ∀ k, 335 ≤ k → K 421 k = I 421 k) : Sim K := by
  obtain ⟨h1, h2, h3, _⟩ := h
  have kj : ∀ q, q < 420 → K q = J q := fun q hq => by rw [g q (by omega) (by omega) (by omega), remH_row (by omega) (by omega), up2_row (by omega)]
  have ji : ∀ q, q ≠ 200 → (q < 235 ∨ 245 < q) → q ≠ 252 → q ≠ 253 → (q < 288 ∨ 420 ≤ q) → J q = I q := fun q k1 k2 k3 k4 k5 => by rw [f q k2 k3 k4, reS_row k1 k5]
  have ki : ∀ q, q ≠ 200 → (q < 235 ∨ 245 < q) → q ≠ 252 → q ≠ 253 → q < 288 → K q = I q := fun q k1 k2 k3 k4 k5 => by rw [kj q (by omega), ji q k1 k2 k3 k4 (Or.inl k5)]
  refine ⟨D.eq fun q g1 g2 => kj q (by omega), h2.eq (fun q g1 g2 => ki q (by omega) (by omega) (by omega) (by omega) (by omega)) e3 e, h3.eq (fun q g1 g2 => ki q (by omega) (by omega) (by omega) (by omega) (by omega)) ?_ ?_ ?_, ?_⟩
  · rw [g 422 (by decide) (by decide) (by decide), remH_row (by decide) (by decide), up2_row (by decide), ji 422 (by decide) (by decide) (by decide) (by decide) (by decide)]
  · rw [kj 200 (by decide), f 200 (by decide) (by decide) (by decide), reS_el (by decide) (by decide)]
  · rw [g 420 (by decide) (by decide) (by decide), remH_el (by decide), up2_ne (by decide), ji 420 (by decide) (by decide) (by decide) (by decide) (by decide)]
  · refine hp.rem h1 (fun q g1 g2 => by rw [kj q g2, f q (by omega) (by omega) (by omega)]) (by rw [kj 200 (by decide), f 200 (by decide) (by decide) (by decide)]) (by rw [kj 200 (by decide), f 200 (by decide) (by decide) (by decide)]) ?_ ?_ e3
    · rw [g 425 (by decide) (by decide) (by decide)]
      exact remH_425 (by rw [up2_row (by decide), ji 425 (by decide) (by decide) (by decide) (by decide) (by decide)]) (by rw [up2_row (by decide), ji 421 (by decide) (by decide) (by decide) (by decide) (by decide)])
    · rw [g 420 (by decide) (by decide) (by decide), remH_7, remH_7, up2_ne (by decide), ji 420 (by decide) (by decide) (by decide) (by decide) (by decide)]
end T79zm
end
section
/-! ===== the acts keep the ranges ===== -/
section T79zn
variable {I J K : Nat → Nat → Int32} {a b n fa d p : Nat} {W V : Nat → Int32}
set_option maxRecDepth 100000
theorem Rg.du (h : Rg W) (hd : d < dn W) (f : ∀ k, (k < 23 + 6 * d ∨ 23 + 6 * d + 6 ≤ k) → V k = W k) (hv : RgD (pn W) (dn W) V d) : Rg V := by
  obtain ⟨⟨h1, h2, h3, h4⟩, hf, hp, hdd⟩ := h
  refine Rg.of h1 h2 ((f 0 (by omega)).trans h3) ((f 1 (by omega)).trans h4) (hf.eq fun k z1 z2 => f k (by omega)) (fun p z => (hp p z).eq (f _ (by omega)) (f _ (by omega))) (fun e' z => ?_)
  by_cases c : e' = d
  · rw [c]
    exact hv
  · exact (hdd e' z).eq fun k hk => f _ (by omega)
theorem Rg.pu (h : Rg W) (hp : p < pn W) (f : ∀ k, k ≠ 11 + 2 * p + 1 → V k = W k) (hv : Nb (V (11 + 2 * p + 1)) 9) : Rg V := by
  obtain ⟨⟨h1, h2, h3, h4⟩, hf, hpp, hdd⟩ := h
  refine Rg.of h1 h2 ((f 0 (by omega)).trans h3) ((f 1 (by omega)).trans h4) (hf.eq fun k z1 z2 => f k (by omega)) (fun p' z => ?_) (fun e' z => (hdd e' z).eq fun k hk => f _ (by omega))
  by_cases c : p' = p
  · subst c
    have h2 := (hpp p' z).1
    unfold RgP
    rw [f (11 + 2 * p') (by omega)]
    exact ⟨h2, hv⟩
  · exact (hpp p' z).eq (f _ (by omega)) (f _ (by omega))
theorem ix_of {m : Nat} (hm : m ≤ 12) {x : Int32} (h : inB x 0 (nI m - 1) = true) : ixN x < m ∧ x = nI (ixN x) := by
  obtain ⟨j, h1, rfl⟩ := inB_ix (by omega) h
  have e : ixN (nI j) = j := ixN_nI (by omega)
  rw [e]
  exact ⟨h1, rfl⟩
theorem vS_ix {nd : Nat} (hn : nd ≤ 12) {k x : Int32} (h : vS nd W k x = 0) : ixN x < nd ∧ W (23 + 6 * ixN x + 5) = k := by
  unfold vS at h
  by_cases c : inB x 0 (nI nd - 1) = true
  · rw [if_pos c] at h
    by_cases c2 : W (23 + 6 * ixN x + 5) = k
    · exact ⟨(ix_of hn c).1, c2⟩
    · rw [if_neg c2] at h
      exact absurd h (by decide)
  · rw [if_neg c] at h
    exact absurd h (by decide)
theorem mn99_nb {x : Int32} (h : Nb x 99) : Nb (mn 99 (x + 1)) 99 := by
  obtain ⟨k, hk, rfl⟩ := h
  by_cases e : k = 99
  · subst e
    exact ⟨99, by decide, by decide⟩
  · have t : ∀ j, j < 99 → mn 99 (nI j + 1) = nI (j + 1) := by decide +kernel
    exact ⟨k + 1, by omega, t k (by omega)⟩
theorem Nm.put (h : Nm I 235 W) {x : Int32} (c : vS (dn W) W 0 x = 0) : Nm (up2 I 240 (ixN x) (mn 99 (W (23 + 6 * ixN x + 2) + 1))) 235 (ud W (23 + 6 * ixN x + 2) (mn 99 (W (23 + 6 * ixN x + 2) + 1))) := by
  have hG := h.2.2
  have hd := (vS_ix hG.1.2.1 c).1
  have h12 : ixN x < 12 := Nat.lt_of_lt_of_le hd hG.1.2.1
  generalize ixN x = d at *
  refine ⟨Sd.ro (a := 235) (k := 2) h.1 h12 (by decide), h.2.1.eq (up2_row (by decide)) (up2_row (by decide)) (if_neg (by omega)) fun k g1 g2 => if_neg (by omega), hG.du hd (fun k hk => if_neg (by omega)) ?_⟩
  obtain ⟨a0, a1, a2, a3, a4, a5⟩ := hG.2.2.2 d hd
  unfold RgD ud
  rw [if_neg (by omega), if_neg (by omega), if_pos rfl, if_neg (by omega), if_neg (by omega), if_neg (by omega)]
  exact ⟨a0, a1, mn99_nb a2, a3, a4, a5⟩
end T79zn
end
section
/-! ===== forget, recall, hand, lean, free keep the ranges ===== -/
section T79zo
variable {I J K : Nat → Nat → Int32} {a b n fa d p : Nat} {W V : Nat → Int32}
set_option maxRecDepth 100000
theorem RgD.st {np nd : Nat} (h : RgD np nd W d) (c : ¬ W (23 + 6 * d + 5) = 1) {s : Nat} (hs : s ≤ 2) (h1 : s ≠ 1) : RgD np nd (ud W (23 + 6 * d + 5) (nI s)) d := by
  obtain ⟨a0, ⟨l, hl, e, f⟩, a2, a3, a4, a5⟩ := h
  unfold RgD ud
  rw [if_pos rfl, if_neg (by omega), if_neg (by omega), if_neg (by omega), if_neg (by omega), if_neg (by omega)]
  refine ⟨a0, ⟨l, hl, e, ⟨fun z => absurd (nI_inj (b := 1) (by omega) (by decide) z) h1, fun z => absurd (f.mpr z) c⟩⟩, a2, a3, a4, ⟨s, hs, rfl⟩⟩
theorem Nm.stt (h : Nm I 235 W) {k x : Int32} (hk : ¬ k = 1) (c : vS (dn W) W k x = 0) {s : Nat} (hs : s ≤ 2) (h1 : s ≠ 1) : Nm (up2 I 243 (ixN x) (nI s)) 235 (ud W (23 + 6 * ixN x + 5) (nI s)) := by
  have hG := h.2.2
  have hd := (vS_ix hG.1.2.1 c).1
  have hc := (vS_ix hG.1.2.1 c).2
  have h12 : ixN x < 12 := Nat.lt_of_lt_of_le hd hG.1.2.1
  generalize ixN x = d at *
  refine ⟨Sd.ro (a := 235) (k := 5) h.1 h12 (by decide), h.2.1.eq (up2_row (by decide)) (up2_row (by decide)) (if_neg (by omega)) fun k g1 g2 => if_neg (by omega), hG.du hd (fun k hk => if_neg (by omega)) ?_⟩
  exact (hG.2.2.2 d hd).st (by rw [hc]; exact hk) hs h1
theorem Nm.hand (h : Nm I 235 W) {x y : Int32} (c : vH (dn W) (pn W) W x y = 0) : Nm (up2 I 238 (ixN x) y) 235 (ud W (23 + 6 * ixN x + 0) y) := by
  have hG := h.2.2
  have hn := hG.1.2.1
  have hm := hG.1.1
  unfold vH at c
  by_cases c0 : inB x 0 (nI (dn W) - 1) = true ∧ inB y 0 (nI (pn W) - 1) = true
  · have hd := (ix_of hn c0.1).1
    obtain ⟨j, hj, ey⟩ := inB_ix (by omega) c0.2
    have h12 : ixN x < 12 := Nat.lt_of_lt_of_le hd hn
    clear c c0
    generalize ixN x = d at *
    refine ⟨Sd.ro (a := 235) (k := 0) h.1 h12 (by decide), h.2.1.eq (up2_row (by decide)) (up2_row (by decide)) (if_neg (by omega)) fun k g1 g2 => if_neg (by omega), hG.du hd (fun k hk => if_neg (by omega)) ?_⟩
    obtain ⟨a0, a1, a2, a3, a4, a5⟩ := hG.2.2.2 d hd
    unfold RgD ud
    rw [if_pos rfl, if_neg (by omega), if_neg (by omega), if_neg (by omega), if_neg (by omega), if_neg (by omega)]
    exact ⟨⟨j, hj, ey⟩, a1, a2, a3, a4, a5⟩
  · rw [if_neg c0] at c
    exact absurd c (by decide)
theorem Nm.lean (h : Nm I 235 W) {x y : Int32} (c : vL (dn W) x y = 0) : Nm (up2 I 242 (ixN x) y) 235 (ud W (23 + 6 * ixN x + 4) y) := by
  have hG := h.2.2
  have hn := hG.1.2.1
  unfold vL at c
  by_cases c0 : inB x 0 (nI (dn W) - 1) = true ∧ (y = -1 ∨ inB y 0 (nI (dn W) - 1) = true)
  · have hd := (ix_of hn c0.1).1
    have ey : y = -1 ∨ ∃ k, k < dn W ∧ y = nI k := c0.2.imp id fun z => inB_ix (by omega) z
    have h12 : ixN x < 12 := Nat.lt_of_lt_of_le hd hn
    clear c c0
    generalize ixN x = d at *
    refine ⟨Sd.ro (a := 235) (k := 4) h.1 h12 (by decide), h.2.1.eq (up2_row (by decide)) (up2_row (by decide)) (if_neg (by omega)) fun k g1 g2 => if_neg (by omega), hG.du hd (fun k hk => if_neg (by omega)) ?_⟩
    obtain ⟨a0, a1, a2, a3, a4, a5⟩ := hG.2.2.2 d hd
    unfold RgD ud
    rw [if_pos rfl, if_neg (by omega), if_neg (by omega), if_neg (by omega), if_neg (by omega), if_neg (by omega)]
    exact ⟨a0, a1, a2, a3, ey, a5⟩
  · rw [if_neg c0] at c
    exact absurd c (by decide)
theorem Nm.free (h : Nm I 235 W) {x y : Int32} (c : vF (pn W) x y = 0) : Nm (up2 I 237 (ixN x) y) 235 (ud W (11 + 2 * ixN x + 1) y) := by
  have hG := h.2.2
  have hm := hG.1.1
  unfold vF at c
  by_cases c0 : inB x 0 (nI (pn W) - 1) = true
  · rw [if_pos c0] at c
    by_cases c1 : inB y 0 9 = true
    · have hp := (ix_of (Nat.le_trans hm (by decide)) c0).1
      obtain ⟨j, _, hj, ey⟩ := inB_nI (a := 0) (b := 9) (by decide) c1
      have h6 : ixN x < 6 := Nat.lt_of_lt_of_le hp hm
      clear c c0 c1
      generalize ixN x = p at *
      refine ⟨Sd.fr (a := 235) h.1 h6, h.2.1.eq (up2_row (by decide)) (up2_row (by decide)) (if_neg (by omega)) fun k g1 g2 => if_neg (by omega), hG.pu hp (fun k hk => if_neg (by omega)) ?_⟩
      unfold ud
      rw [if_pos rfl]
      exact ⟨j, hj, ey⟩
    · rw [if_neg c1] at c
      exact absurd c (by decide)
  · rw [if_neg c0] at c
    exact absurd c (by decide)
end T79zo
end
