/-! ===== sets by their bits; the class's queries on a street are those on its row ===== -/
section P79v
variable {nd np d : Nat} {W : Nat → Int32} {I : Nat → Nat → Int32} {a : Nat}
set_option maxRecDepth 100000
theorem bt_bitF {e i : Nat} (he : e < 31) (hi : i < 32) : bt (bitF (nI e)) i = decide (i = e) := by
  unfold bitF
  rw [if_neg (nI_pos (by omega)), if_neg (fun z => by have := nI_ge_of (a := e) (b := 31) z (by omega) (by decide); omega)]
  exact bt_sh (by omega) hi
theorem bt_bs {P : Nat → Bool} : ∀ {n : Nat}, n ≤ 12 → ∀ i, i < 32 → bt (bs n P) i = (decide (i < n) && P i) := by
  intro n
  induction n with
  | zero =>
    intro _ i _
    exact b_0 i
  | succ n ih =>
    intro hn i hi
    have ih := ih (by omega) i hi
    show bt (if P n then bs n P ||| bitF (nI n) else bs n P) i = _
    by_cases c : P n = true
    · rw [if_pos c, b_or, ih, bt_bitF (by omega) hi]
      by_cases ci : i = n
      · subst ci
        simp [c]
      · simp only [ci, decide_false, Bool.or_false]
        congr 1
        exact decide_eq_decide.mpr ⟨fun z => by omega, fun z => by omega⟩
    · rw [if_neg c, ih]
      by_cases ci : i = n
      · subst ci
        simp [c]
      · congr 1
        exact decide_eq_decide.mpr ⟨fun z => by omega, fun z => by omega⟩
theorem hasF_bt {s : Int32} {e : Nat} (he : e < 31) : hasF s (nI e) = bt s e := by
  unfold hasF
  have key : (s &&& bitF (nI e)) = 0 ↔ bt s e = false := by
    constructor
    · intro z
      have := congrArg (fun x => bt x e) z
      simp only [b_and, b_0, bt_bitF he (show e < 32 by omega), decide_true, Bool.and_true] at this
      exact this
    · intro z
      refine b_ext fun i hi => ?_
      rw [b_and, b_0, bt_bitF he hi]
      by_cases c : i = e
      · subst c
        simp [z]
      · simp [c]
  cases hb : bt s e with
  | false => exact decide_eq_false (fun z => z (key.mpr hb))
  | true => exact decide_eq_true (fun z => by rw [key.mp z] at hb; cases hb)
theorem shb_is {s : Int32} {e : Nat} (he : e < 31) : shb s e = bt s e := by
  unfold shb
  have key : ((s >>> (nI e &&& 31)) &&& 1) = 0 ↔ bt s e = false := by
    constructor
    · intro z
      have := congrArg (fun x => bt x 0) z
      simp only [b_and, b_0, bt_1 0 (by decide), b_sshr e (show e < 32 by omega) s (show 0 < 32 by decide), Nat.add_zero, decide_true, Bool.and_true] at this
      rw [if_pos (by omega)] at this
      exact this
    · intro z
      refine b_ext fun i hi => ?_
      rw [b_and, b_0, bt_1 i hi, b_sshr e (by omega) s hi]
      by_cases c : i = 0
      · subst c
        rw [Nat.add_zero, if_pos (by omega), z]
        rfl
      · simp [c]
  cases hb : bt s e with
  | false => exact decide_eq_false (fun z => z (key.mpr hb))
  | true => exact decide_eq_true (fun z => by rw [key.mp z] at hb; cases hb)
theorem hasF_or {x y : Int32} {e : Nat} (he : e < 31) : hasF (x ||| y) (nI e) = (hasF x (nI e) || hasF y (nI e)) := by rw [hasF_bt he, hasF_bt he, hasF_bt he, b_or]
theorem hasF_bit {e i : Nat} (he : e < 31) (hi : i < 31) : hasF (bitF (nI e)) (nI i) = decide (i = e) := by rw [hasF_bt hi, bt_bitF he (by omega)]
theorem hasF_0 {i : Nat} (hi : i < 31) : hasF 0 (nI i) = false := by rw [hasF_bt hi, b_0]
theorem hasF_bs {P : Nat → Bool} (hn : nd ≤ 12) (hd : d < nd) : hasF (bs nd P) (nI d) = P d := by
  rw [hasF_bt (by omega), bt_bs hn d (by omega), decide_eq_true hd, Bool.true_and]
theorem shb_bs {P : Nat → Bool} (hn : nd ≤ 12) (hd : d < 31) : shb (bs nd P) d = (decide (d < nd) && P d) := by
  rw [shb_is hd, bt_bs hn d (by omega)]
theorem bs_and {P Q : Nat → Bool} (hn : nd ≤ 12) : bs nd P &&& bs nd Q = bs nd (fun d => P d && Q d) := by
  refine b_ext fun i hi => ?_
  rw [b_and, bt_bs hn i hi, bt_bs hn i hi, bt_bs hn i hi]
  cases decide (i < nd) <;> simp
theorem bs_andn {P Q : Nat → Bool} (hn : nd ≤ 12) : bs nd P &&& (bs nd Q ^^^ (-1)) = bs nd (fun d => P d && !Q d) := by
  refine b_ext fun i hi => ?_
  rw [b_and, b_xor, b_m1 i hi, bt_bs hn i hi, bt_bs hn i hi, bt_bs hn i hi]
  cases decide (i < nd) <;> simp
theorem bc_add : ∀ n, n < 12 → ∀ m, m < 2 ^ n → bcF (nI (m + 2 ^ n)) = bcF (nI m) + 1 := by decide +kernel
theorem bc_bs {P : Nat → Bool} : ∀ {n : Nat}, n ≤ 12 → bcF (bs n P) = nI (cntF n P) := by
  intro n
  induction n with
  | zero =>
    intro _
    show bcF 0 = nI 0
    decide
  | succ n ih =>
    intro hn
    have ih := ih (by omega)
    obtain ⟨m, hm, em⟩ := bs_nI (n := n) (P := P) (by omega)
    show bcF (if P n then bs n P ||| bitF (nI n) else bs n P) = nI (if P n then cntF n P + 1 else cntF n P)
    by_cases c : P n = true
    · rw [if_pos c, if_pos c, em, or_bit n (by omega) m hm, bc_add n (by omega) m hm, ← em, ih, ← nI_succ]
    · rw [if_neg c, if_neg c, ih]
theorem Sd.row {k : Nat} (h : Sd I a W) (hd : d < 12) (hk : k < 6) : I (a + (3 + k)) d = vd W k d := by
  rw [← Nat.add_assoc]
  exact h.2.2 d hd k hk
theorem lf_same (h : Sd I a W) (hG : Rg W) (hd : d < dn W) : lfF (I (a + 7)) (I (a + 8)) (nI d) = lwF W d := by
  have h12 := hG.1.2.1
  have e4 : I (a + 7) d = vd W 4 d := Sd.row (k := 4) h (by omega) (by decide)
  unfold lfF lwF
  rw [atF_nI (show d < 12 by omega) (by decide), e4]
  rcases (hG.2.2.2 d hd).2.2.2.2.1 with z | ⟨j, hj, z⟩
  · have z : vd W 4 d = -1 := z
    rw [z]
    simp
  · have z : vd W 4 d = nI j := z
    rw [z, atF_nI (show j < 12 by omega) (by decide), nI_clamp (by omega), show I (a + 8) j = vd W 5 j from Sd.row (k := 5) h (by omega) (by decide)]
theorem wait_same (h : Sd I a W) (hG : Rg W) (hd : d < dn W) : waitF (dn W) (I (a + 8)) (nI d) = decide (vd W 5 d = 0) := by
  have h12 := hG.1.2.1
  rw [waitF_nI hd h12, show I (a + 8) d = vd W 5 d from Sd.row (k := 5) h (by omega) (by decide)]
theorem rd_same (h : Sd I a W) (hG : Rg W) (hd : d < dn W) : rdF (dn W) (I (a + 8)) (I (a + 7)) (nI d) = readyR W d := by
  unfold rdF readyR
  rw [wait_same h hG hd, lf_same h hG hd]
theorem inS_same (h : Sd I a W) (hG : Rg W) {x : Int32} : inS (dn W) (I (a + 8)) x = inS (dn W) (vd W 5) x := by
  have h12 := hG.1.2.1
  exact bs_congr fun e he => by rw [show I (a + 8) e = vd W 5 e from Sd.row (k := 5) h (by omega) (by decide)]
theorem old_same (h : Sd I a W) (hG : Rg W) {x : Int32} : oldF (dn W) (I (a + 8)) (I (a + 5)) x = oldF (dn W) (vd W 5) (vd W 2) x := by
  have h12 := hG.1.2.1
  exact bs_congr fun e he => by rw [show I (a + 8) e = vd W 5 e from Sd.row (k := 5) h (by omega) (by decide), show I (a + 5) e = vd W 2 e from Sd.row (k := 2) h (by omega) (by decide)]
theorem own_same (h : Sd I a W) (hG : Rg W) {x : Int32} : ownF (dn W) (I (a + 3)) x = ownF (dn W) (vd W 0) x := by
  have h12 := hG.1.2.1
  exact bs_congr fun e he => by rw [show I (a + 3) e = vd W 0 e from Sd.row (k := 0) h (by omega) (by decide)]
theorem place_same (h : Sd I a W) (hG : Rg W) (hd : d < dn W) : placeF (dn W) (I (a + 8)) (I (a + 5)) (nI d) = placeF (dn W) (vd W 5) (vd W 2) (nI d) := by
  have h12 := hG.1.2.1
  have e2 : ∀ e, e < dn W → I (a + 5) e = vd W 2 e := fun e he => Sd.row (k := 2) h (by omega) (by decide)
  have e5 : ∀ e, e < dn W → I (a + 8) e = vd W 5 e := fun e he => Sd.row (k := 5) h (by omega) (by decide)
  unfold placeF placeC
  rw [wait_same h hG hd, waitF_nI hd h12, atF_nI (show d < 12 by omega) (by decide), atF_nI (show d < 12 by omega) (by decide), e2 d hd]
  rw [cntF_congr (P' := fun e => decide (vd W 5 e = 0 ∧ (vd W 2 e < vd W 2 d ∨ (vd W 2 e = vd W 2 d ∧ nI e < nI d)))) fun e he => by rw [e5 e he, e2 e he]]
theorem pass_same (h : Sd I a W) (hG : Rg W) (hd : d < dn W) : passF (dn W) (I (a + 8)) (I (a + 5)) (I a 13) (nI d) = passR (dn W) W d := by
  have h12 := hG.1.2.1
  unfold passF passR
  rw [wait_same h hG hd, inS_same h hG, old_same h hG, show I a 13 = W 7 from Sd.fd h (by decide), atF_nI (show d < 12 by omega) (by decide), show I (a + 5) d = vd W 2 d from Sd.row (k := 2) h (by omega) (by decide)]
  have e1 : bcF (inS (dn W) (vd W 5) 0 &&& (oldF (dn W) (vd W 5) (vd W 2) (vd W 2 d) ^^^ (-1))) = nI (cntF (dn W) (fun e => decide (vd W 5 e = 0 ∧ vd W 2 e ≤ vd W 2 d))) := by
    unfold inS oldF
    rw [bs_andn h12, bc_bs h12]
    congr 1
    refine cntF_congr fun e _ => ?_
    by_cases c5 : vd W 5 e = 0
    · by_cases c2 : vd W 2 e ≤ vd W 2 d
      · simp [c5, c2, Int32.not_lt.mpr c2]
      · simp [c5, c2, Int32.not_le.mp c2]
    · simp [c5]
  rw [e1]
  by_cases c : vd W 5 d = 0
  · rw [decide_eq_true c, if_pos rfl, if_pos c]
  · rw [decide_eq_false c, if_neg Bool.false_ne_true, if_neg c]
theorem can_same (h : Sd I a W) (hG : Rg W) : canF (dn W) (I (a + 8)) (I (a + 7)) (I (a + 4)) (I (a + 5)) (I a 13) = bs (dn W) (canR (dn W) W) := by
  have h12 := hG.1.2.1
  refine bs_congr fun e he => ?_
  unfold canR
  rw [rd_same h hG he, pass_same h hG he, show I (a + 4) e = vd W 1 e from Sd.row (k := 1) h (by omega) (by decide)]
theorem fact_5 (h : Sd I a W) (hG : Rg W) (hd : d < dn W) : atF (I (a + 1)) 6 (vd W 0 d) = W (11 + 2 * (vd W 0 d).toNatClampNeg) := by
  have h6 := hG.1.1
  obtain ⟨⟨j, hj, ej⟩, -⟩ := hG.2.2.2 d hd
  have ej : vd W 0 d = nI j := ej
  rw [ej, atF_nI (show j < 6 by omega) (by decide), nI_clamp (by omega)]
  exact (h.2.1 j (by omega)).1
theorem fact_same (h : Sd I a W) (hG : Rg W) (hd : d < dn W) : factC I a d = factW W d := by
  have h12 := hG.1.2.1
  have e0 : I (a + 3) d = vd W 0 d := Sd.row (k := 0) h (by omega) (by decide)
  have e1 : I (a + 4) d = vd W 1 d := Sd.row (k := 1) h (by omega) (by decide)
  have e2 : I (a + 5) d = vd W 2 d := Sd.row (k := 2) h (by omega) (by decide)
  have e3 : I (a + 6) d = vd W 3 d := Sd.row (k := 3) h (by omega) (by decide)
  have e4 : I a 10 = W 4 := Sd.fd h (by decide)
  have e5 := fact_5 h hG hd
  have e7 := lf_same h hG hd
  funext k
  rcases k with _ | _ | _ | _ | _ | _ | _ | _ | _ | n
  all_goals simp only [factC, factW, e0, e1, e2, e3, e4, e5, e7]
/-- both laws are alike -/
def LwS (I : Nat → Nat → Int32) (b : Nat) (W : Nat → Int32) (nl len : Nat) (cd fa fn : Nat → Nat) : Prop := LawC I b nl len cd fa fn ∧ LawR W nl len cd fa fn ∧ (∀ n, n < nl → I (b + 1) n = kiW W n ∧ I (b + 2) n = nuW W n) ∧ (I b 0 = -1 ↔ W 3 = 0)
theorem sumL_congr {F ki ki' nu nu' : Nat → Int32} {cd fa fn : Nat → Nat} {kind : Int32} : ∀ {n : Nat}, (∀ i, i < n → ki i = ki' i ∧ nu i = nu' i) → sumL F ki nu cd fa fn kind n = sumL F ki' nu' cd fa fn kind n := by
  intro n
  induction n with
  | zero => exact fun _ => rfl
  | succ n ih =>
    intro h
    have e := h n (Nat.lt_succ_self n)
    unfold sumL
    rw [ih fun i hi => h i (Nat.lt_succ_of_lt hi), e.1, e.2]
theorem sum_same {b nl len : Nat} {cd fa fn : Nat → Nat} {kind : Int32} (h : Sd I a W) (hG : Rg W) (hL : LwS I b W nl len cd fa fn) (hd : d < dn W) : sumC I b (factC I a d) cd fa fn nl kind = sumR W cd fa fn nl d kind := by
  unfold sumC sumR
  rw [fact_same h hG hd]
  exact sumL_congr hL.2.2.1
theorem grow_same {b nl len : Nat} {cd fa fn : Nat → Nat} (h : Sd I a W) (hG : Rg W) (hL : LwS I b W nl len cd fa fn) (hd : d < dn W) : growC I a b cd fa fn nl d = sumR W cd fa fn nl d 0 := sum_same h hG hL hd
end P79v
