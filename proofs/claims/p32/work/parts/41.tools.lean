/-! ===== what of the heap counts; copies ===== -/
def mI (K : Nat → Nat × Nat) (p k : Nat) : Bool := match K p with
  | (0, _) => false
  | (1, ci) => match aC[ci]? with
    | some r => Nat.blt k r.1.2.2 && isIntTy (r.2 k)
    | none => false
  | (_ + 2, n) => Nat.blt k n
theorem arrV_congr {c : ClassId} {n : Nat} {f g : Nat → Value} (h : ∀ j, j < n → f j = g j) : arrV c n f = arrV c n g := by
  unfold arrV
  congr 1
  congr 1
  funext j
  exact h j.val j.isLt
theorem blt_of {a b : Nat} (h : a < b) : Nat.blt a b = true := Nat.ble_eq_true_of_le h
theorem Rep.congrI {G : aG} {K : Nat → Nat × Nat} {I I' : Nat → Nat → Int32} {L : Nat → Nat → Int64} {R : Nat → Nat → Nat} {t : Nat} {H : Heap} (hR : Rep G (K, I, L, R, t) H) (h : ∀ p k, mI K p k = true → I' p k = I p k) : Rep G (K, I', L, R, t) H := by
  refine ⟨fun p => ?_, hR.2⟩
  have q := hR.1 p
  have hh := h p
  unfold mI at hh
  unfold cellA at q ⊢
  dsimp only at q ⊢
  rcases hk : K p with ⟨a, b⟩
  rw [hk] at q hh
  rcases a with _ | _ | a
  · trivial
  · obtain ⟨r, h1, cell, h2, h3, h4, h5⟩ := q
    refine ⟨r, h1, cell, h2, h3, h4, fun k hkk => ?_⟩
    rw [h5 k hkk]
    dsimp only at hh
    rw [h1] at hh
    cases hty : isIntTy (r.2 k) with
    | true => rw [fv_int hty, fv_int hty, hh k (by dsimp only; rw [hty, blt_of hkk]; rfl)]
    | false =>
      unfold fv
      cases hr : r.2 k <;> first | rfl | (rw [hr] at hty; cases hty)
  · have e : arrV (G.2.1 (a + 2)) b (fun j => ev G I' L R (a + 2) p j) = arrV (G.2.1 (a + 2)) b (fun j => ev G I L R (a + 2) p j) := arrV_congr fun j hj => by
      unfold ev
      rw [hh j (blt_of hj)]
    show H[ad G p]? = some (arrV _ _ _)
    rw [e]
    exact q
section A41
variable {S : aS} {C : aM} {d : Nat} {Q : Option Value → aH → Prop} {X : String → aH → Prop} {k1 k2 pc np tgt : Nat} {w : Int32} {ls ls' : List (Option Value)} {st st' : List Value} {h : aH} {ins : Instr}
variable {K : Nat → Nat × Nat} {I I' : Nat → Nat → Int32} {L : Nat → Nat → Int64} {R : Nat → Nat → Nat} {t : Nat}
/-- a heap in which all that counts is the same -/
theorem a_congr (hI : ∀ p k, mI K p k = true → I' p k = I p k) (kk : AW S C d Q X k1 k2 pc ls st (K, I', L, R, t)) : AW S C d Q X k1 k2 pc ls st (K, I, L, R, t) := by
  intro p l e s m args below meth c H la locs cells slots mc ms G CC hS hL hR hF g1 g2
  exact kk p l e s m args below meth c H la locs cells slots mc ms G CC hS hL (hR.congrI hI) hF g1 g2
/-- a loop by an invariant of its own -/
theorem a_inv {n : Nat} (P : Nat → List (Option Value) → aH → Prop) (h0 : P n ls h) (hs : ∀ j ls h, P j ls h → (∀ i ls' h', i < j → P i ls' h' → AW S C d Q X k1 k2 pc ls' st h') → AW S C d Q X k1 k2 pc ls st h) : AW S C d Q X k1 k2 pc ls st h := by
  induction n using Nat.strongRecOn generalizing ls h with
  | _ n ih => exact hs n ls h h0 fun i ls' h' hi hp => ih i hi hp
theorem a_getiv {idx ci k p : Nat} {v : Int32} (hC : look C pc = some (.getfield idx, np, tgt, w)) (hf : LFi C.1.cls idx ci k) (hK : K p = (1, ci)) (hv : I p k = v) (kk : AW S C d Q X k1 k2 np ls (.int v :: st) (K, I, L, R, t)) : AW S C d Q X k1 k2 pc ls (.ref p :: st) (K, I, L, R, t) := by
  subst hv
  exact a_geti hC hf hK kk
theorem a_ialdv {p n : Nat} {i v : Int32} (hC : look C pc = some (.iaload, np, tgt, w)) (hK : K p = (2, n)) (hi : inI i n) (hv : I p i.toNatClampNeg = v) (kk : AW S C d Q X k1 k2 np ls (.int v :: st) (K, I, L, R, t)) : AW S C d Q X k1 k2 pc ls (.int i :: .ref p :: st) (K, I, L, R, t) := by
  subst hv
  exact a_iald hC hK hi kk
theorem a_iastv {p n k : Nat} {i x : Int32} (hC : look C pc = some (.iastore, np, tgt, w)) (hK : K p = (2, n)) (hi : inI i n) (hk : i.toNatClampNeg = k) (kk : AW S C d Q X k1 k2 np ls st (K, up2 I p k x, L, R, t)) : AW S C d Q X k1 k2 pc ls (.int x :: .int i :: .ref p :: st) (K, I, L, R, t) := by
  subst hk
  exact a_iast hC hK hi kk
theorem a_bastv {p n k : Nat} {i x : Int32} (hC : look C pc = some (.bastore, np, tgt, w)) (hK : K p = (3, n)) (hi : inI i n) (hx : x.toInt8.toInt32 = x) (hk : i.toNatClampNeg = k) (kk : AW S C d Q X k1 k2 np ls st (K, up2 I p k x, L, R, t)) : AW S C d Q X k1 k2 pc ls (.int x :: .int i :: .ref p :: st) (K, I, L, R, t) := by
  subst hk
  exact a_bast hC hK hi hx kk
theorem a_baldv {p n : Nat} {i v : Int32} (hC : look C pc = some (.baload, np, tgt, w)) (hK : K p = (3, n)) (hi : inI i n) (hv : I p i.toNatClampNeg = v) (kk : AW S C d Q X k1 k2 np ls (.int v :: st) (K, I, L, R, t)) : AW S C d Q X k1 k2 pc ls (.int i :: .ref p :: st) (K, I, L, R, t) := by
  subst hv
  exact a_bald hC hK hi kk
theorem a_laldv {p n : Nat} {i : Int32} {v : Int64} (hC : look C pc = some (.laload, np, tgt, w)) (hK : K p = (4, n)) (hi : inI i n) (hv : L p i.toNatClampNeg = v) (kk : AW S C d Q X k1 k2 np ls (.long v :: st) (K, I, L, R, t)) : AW S C d Q X k1 k2 pc ls (.int i :: .ref p :: st) (K, I, L, R, t) := by
  subst hv
  exact a_lald hC hK hi kk
theorem a_lastv {p n k : Nat} {i : Int32} {x : Int64} (hC : look C pc = some (.lastore, np, tgt, w)) (hK : K p = (4, n)) (hi : inI i n) (hk : i.toNatClampNeg = k) (kk : AW S C d Q X k1 k2 np ls st (K, I, up2 L p k x, R, t)) : AW S C d Q X k1 k2 pc ls (.long x :: .int i :: .ref p :: st) (K, I, L, R, t) := by
  subst hk
  exact a_last hC hK hi kk
theorem a_top {x y : Int32} (e : x = y) (kk : AW S C d Q X k1 k2 pc ls (.int y :: st) h) : AW S C d Q X k1 k2 pc ls (.int x :: st) h := by
  rw [e]
  exact kk
theorem a_pop1 {st0 : List Value} (e : st0 = st) (kk : AW S C d Q X k1 k2 pc ls st h) : AW S C d Q X k1 k2 pc ls st0 h := by
  rw [e]
  exact kk
end A41
theorem i2b_id (x : Int32) : x.toInt8.toInt32.toInt8.toInt32 = x.toInt8.toInt32 := by simp
theorem upr_row {α : Type} {f : Nat → α} {p q : Nat} {r : α} (h : q ≠ p) : upr f p r q = f q := by simp [upr, h]
theorem upr_at {α : Type} {f : Nat → α} {p : Nat} {r : α} : upr f p r p = r := by simp [upr]
theorem stp_apart : ∀ a ∈ stps, ∀ b ∈ stps, a ≠ b → a + 11 ≤ b ∨ b + 11 ≤ a := by decide +kernel
theorem lwp_apart : ∀ a ∈ lwps, ∀ b ∈ lwps, a ≠ b → a + 9 ≤ b ∨ b + 9 ≤ a := by decide +kernel
def cpS (I : Nat → Nat → Int32) (a b m : Nat) : Nat → Nat → Int32 := fun q => if a ≤ q ∧ q < a + m then I (b + (q - a)) else I q
theorem cpS_out {I : Nat → Nat → Int32} {a b m q : Nat} (h : ¬ (a ≤ q ∧ q < a + m)) : cpS I a b m q = I q := if_neg h
theorem cpS_in {I : Nat → Nat → Int32} {a b m i : Nat} (h : i < m) : cpS I a b m (a + i) = I (b + i) := by
  unfold cpS
  rw [if_pos ⟨by omega, by omega⟩]
  congr 1
  omega
theorem cpS_in0 {I : Nat → Nat → Int32} {a b m : Nat} (h : 0 < m) : cpS I a b m a = I b := cpS_in (i := 0) h
theorem cpS_all {I : Nat → Nat → Int32} {a b : Nat} (h : a + 11 ≤ b ∨ b + 11 ≤ a) : cpS (cpS I a b 9) (a + 9) (b + 9) 2 = cpS I a b 11 := by
  funext q
  by_cases h1 : a ≤ q ∧ q < a + 11
  · by_cases h2 : q < a + 9
    · rw [cpS_out (by omega)]
      unfold cpS
      rw [if_pos (by omega), if_pos (by omega)]
    · have e : cpS (cpS I a b 9) (a + 9) (b + 9) 2 q = cpS I a b 9 (b + 9 + (q - (a + 9))) := if_pos (by omega)
      rw [e, cpS_out (by omega)]
      unfold cpS
      rw [if_pos (by omega)]
      congr 1
      omega
  · rw [cpS_out (by omega), cpS_out (by omega), cpS_out (by omega)]
def cpL (I : Nat → Nat → Int32) (a b : Nat) : Nat → Nat → Int32 := up2 (cpS I (a + 1) (b + 1) 5) a 0 (I b 0)
/-- the first j of a row -/
def cpP (I : Nat → Nat → Int32) (p q j : Nat) : Nat → Nat → Int32 := upr I p (fun k => if k < j then I q k else I p k)
theorem cpP_0 {I : Nat → Nat → Int32} {p q : Nat} : cpP I p q 0 = I := by
  funext x
  unfold cpP upr
  split
  · next h => subst h; funext k; simp
  · rfl
theorem cpP_src {I : Nat → Nat → Int32} {p q j : Nat} (h : q ≠ p) : cpP I p q j q = I q := upr_row h
theorem cpP_out {I : Nat → Nat → Int32} {p q j x : Nat} (h : x ≠ p) : cpP I p q j x = I x := upr_row h
theorem cpP_succ {I : Nat → Nat → Int32} {p q j : Nat} : up2 (cpP I p q j) p j (I q j) = cpP I p q (j + 1) := by
  funext x k
  by_cases hx : x = p
  · subst hx
    by_cases hk : k = j
    · subst hk
      rw [up2_at]
      simp [cpP, upr]
    · rw [up2_ne (Or.inr hk)]
      simp only [cpP, upr, if_pos]
      by_cases h : k < j
      · rw [if_pos h, if_pos (by omega)]
      · rw [if_neg h, if_neg (by omega)]
  · rw [up2_row hx, cpP_out hx, cpP_out hx]
theorem a_iv10 {S : aS} {C : aM} {d : Nat} {Q : Option Value → aH → Prop} {X : String → aH → Prop} {k1 k2 pc np tgt : Nat} {w : Int32} {r : List (Option Value)} {st : List Value} {h : aH} {a0 a1 a2 a3 a4 a5 a6 a7 a8 a9 : Option Value} {n : Int} {x y : Int32} (hC : look C pc = some (.iinc 10 n, np, tgt, w)) (hl : notLong a9 = true) (hn : Nat.ble 11 C.2.2.1 = true) (e : x + w = y) (k : AW S C d Q X k1 k2 np (a0 :: a1 :: a2 :: a3 :: a4 :: a5 :: a6 :: a7 :: a8 :: a9 :: some (.int y) :: r) st h) : AW S C d Q X k1 k2 pc (a0 :: a1 :: a2 :: a3 :: a4 :: a5 :: a6 :: a7 :: a8 :: a9 :: some (.int x) :: r) st h := a_i10 hC hl hn (by rw [e]; exact k)
theorem a_iv9 {S : aS} {C : aM} {d : Nat} {Q : Option Value → aH → Prop} {X : String → aH → Prop} {k1 k2 pc np tgt : Nat} {w : Int32} {r : List (Option Value)} {st : List Value} {h : aH} {a0 a1 a2 a3 a4 a5 a6 a7 a8 : Option Value} {n : Int} {x y : Int32} (hC : look C pc = some (.iinc 9 n, np, tgt, w)) (hl : notLong a8 = true) (hn : Nat.ble 10 C.2.2.1 = true) (e : x + w = y) (k : AW S C d Q X k1 k2 np (a0 :: a1 :: a2 :: a3 :: a4 :: a5 :: a6 :: a7 :: a8 :: some (.int y) :: r) st h) : AW S C d Q X k1 k2 pc (a0 :: a1 :: a2 :: a3 :: a4 :: a5 :: a6 :: a7 :: a8 :: some (.int x) :: r) st h := a_i9 hC hl hn (by rw [e]; exact k)
theorem a_iv8 {S : aS} {C : aM} {d : Nat} {Q : Option Value → aH → Prop} {X : String → aH → Prop} {k1 k2 pc np tgt : Nat} {w : Int32} {r : List (Option Value)} {st : List Value} {h : aH} {a0 a1 a2 a3 a4 a5 a6 a7 : Option Value} {n : Int} {x y : Int32} (hC : look C pc = some (.iinc 8 n, np, tgt, w)) (hl : notLong a7 = true) (hn : Nat.ble 9 C.2.2.1 = true) (e : x + w = y) (k : AW S C d Q X k1 k2 np (a0 :: a1 :: a2 :: a3 :: a4 :: a5 :: a6 :: a7 :: some (.int y) :: r) st h) : AW S C d Q X k1 k2 pc (a0 :: a1 :: a2 :: a3 :: a4 :: a5 :: a6 :: a7 :: some (.int x) :: r) st h := a_i8 hC hl hn (by rw [e]; exact k)
theorem a_iv7 {S : aS} {C : aM} {d : Nat} {Q : Option Value → aH → Prop} {X : String → aH → Prop} {k1 k2 pc np tgt : Nat} {w : Int32} {r : List (Option Value)} {st : List Value} {h : aH} {a0 a1 a2 a3 a4 a5 a6 : Option Value} {n : Int} {x y : Int32} (hC : look C pc = some (.iinc 7 n, np, tgt, w)) (hl : notLong a6 = true) (hn : Nat.ble 8 C.2.2.1 = true) (e : x + w = y) (k : AW S C d Q X k1 k2 np (a0 :: a1 :: a2 :: a3 :: a4 :: a5 :: a6 :: some (.int y) :: r) st h) : AW S C d Q X k1 k2 pc (a0 :: a1 :: a2 :: a3 :: a4 :: a5 :: a6 :: some (.int x) :: r) st h := a_i7 hC hl hn (by rw [e]; exact k)
theorem a_iv6 {S : aS} {C : aM} {d : Nat} {Q : Option Value → aH → Prop} {X : String → aH → Prop} {k1 k2 pc np tgt : Nat} {w : Int32} {r : List (Option Value)} {st : List Value} {h : aH} {a0 a1 a2 a3 a4 a5 : Option Value} {n : Int} {x y : Int32} (hC : look C pc = some (.iinc 6 n, np, tgt, w)) (hl : notLong a5 = true) (hn : Nat.ble 7 C.2.2.1 = true) (e : x + w = y) (k : AW S C d Q X k1 k2 np (a0 :: a1 :: a2 :: a3 :: a4 :: a5 :: some (.int y) :: r) st h) : AW S C d Q X k1 k2 pc (a0 :: a1 :: a2 :: a3 :: a4 :: a5 :: some (.int x) :: r) st h := a_i6 hC hl hn (by rw [e]; exact k)
theorem a_iv5 {S : aS} {C : aM} {d : Nat} {Q : Option Value → aH → Prop} {X : String → aH → Prop} {k1 k2 pc np tgt : Nat} {w : Int32} {r : List (Option Value)} {st : List Value} {h : aH} {a0 a1 a2 a3 a4 : Option Value} {n : Int} {x y : Int32} (hC : look C pc = some (.iinc 5 n, np, tgt, w)) (hl : notLong a4 = true) (hn : Nat.ble 6 C.2.2.1 = true) (e : x + w = y) (k : AW S C d Q X k1 k2 np (a0 :: a1 :: a2 :: a3 :: a4 :: some (.int y) :: r) st h) : AW S C d Q X k1 k2 pc (a0 :: a1 :: a2 :: a3 :: a4 :: some (.int x) :: r) st h := a_i5 hC hl hn (by rw [e]; exact k)
theorem a_iv4 {S : aS} {C : aM} {d : Nat} {Q : Option Value → aH → Prop} {X : String → aH → Prop} {k1 k2 pc np tgt : Nat} {w : Int32} {r : List (Option Value)} {st : List Value} {h : aH} {a0 a1 a2 a3 : Option Value} {n : Int} {x y : Int32} (hC : look C pc = some (.iinc 4 n, np, tgt, w)) (hl : notLong a3 = true) (hn : Nat.ble 5 C.2.2.1 = true) (e : x + w = y) (k : AW S C d Q X k1 k2 np (a0 :: a1 :: a2 :: a3 :: some (.int y) :: r) st h) : AW S C d Q X k1 k2 pc (a0 :: a1 :: a2 :: a3 :: some (.int x) :: r) st h := a_i4 hC hl hn (by rw [e]; exact k)
theorem a_iv3 {S : aS} {C : aM} {d : Nat} {Q : Option Value → aH → Prop} {X : String → aH → Prop} {k1 k2 pc np tgt : Nat} {w : Int32} {r : List (Option Value)} {st : List Value} {h : aH} {a0 a1 a2 : Option Value} {n : Int} {x y : Int32} (hC : look C pc = some (.iinc 3 n, np, tgt, w)) (hl : notLong a2 = true) (hn : Nat.ble 4 C.2.2.1 = true) (e : x + w = y) (k : AW S C d Q X k1 k2 np (a0 :: a1 :: a2 :: some (.int y) :: r) st h) : AW S C d Q X k1 k2 pc (a0 :: a1 :: a2 :: some (.int x) :: r) st h := a_i3 hC hl hn (by rw [e]; exact k)
theorem a_iv2 {S : aS} {C : aM} {d : Nat} {Q : Option Value → aH → Prop} {X : String → aH → Prop} {k1 k2 pc np tgt : Nat} {w : Int32} {r : List (Option Value)} {st : List Value} {h : aH} {a0 a1 : Option Value} {n : Int} {x y : Int32} (hC : look C pc = some (.iinc 2 n, np, tgt, w)) (hl : notLong a1 = true) (hn : Nat.ble 3 C.2.2.1 = true) (e : x + w = y) (k : AW S C d Q X k1 k2 np (a0 :: a1 :: some (.int y) :: r) st h) : AW S C d Q X k1 k2 pc (a0 :: a1 :: some (.int x) :: r) st h := a_i2 hC hl hn (by rw [e]; exact k)
theorem a_iv1 {S : aS} {C : aM} {d : Nat} {Q : Option Value → aH → Prop} {X : String → aH → Prop} {k1 k2 pc np tgt : Nat} {w : Int32} {r : List (Option Value)} {st : List Value} {h : aH} {a0 : Option Value} {n : Int} {x y : Int32} (hC : look C pc = some (.iinc 1 n, np, tgt, w)) (hl : notLong a0 = true) (hn : Nat.ble 2 C.2.2.1 = true) (e : x + w = y) (k : AW S C d Q X k1 k2 np (a0 :: some (.int y) :: r) st h) : AW S C d Q X k1 k2 pc (a0 :: some (.int x) :: r) st h := a_i1 hC hl hn (by rw [e]; exact k)
theorem a_iv0 {S : aS} {C : aM} {d : Nat} {Q : Option Value → aH → Prop} {X : String → aH → Prop} {k1 k2 pc np tgt : Nat} {w : Int32} {r : List (Option Value)} {st : List Value} {h : aH} {n : Int} {x y : Int32} (hC : look C pc = some (.iinc 0 n, np, tgt, w)) (hn : Nat.ble 1 C.2.2.1 = true) (e : x + w = y) (k : AW S C d Q X k1 k2 np (some (.int y) :: r) st h) : AW S C d Q X k1 k2 pc (some (.int x) :: r) st h := a_i0 hC hn (by rw [e]; exact k)
set_option maxRecDepth 100000
theorem sp_X11_copyRow {S : aS} {I : Nat → Nat → Int32} {L : Nat → Nat → Int64} {w1 w2 t : Nat} {p q n : Nat} (h1 : K0 p = (2, n)) (h2 : K0 q = (2, n)) {f : Nat → Int32} (hf : I p = f) : SpE S m_X11_copyRow 12 [.ref p, .ref q] (hp I L w1 w2 t) none (hp (upr I q f) L w1 w2 t) := by
  refine SpE_of ok_X11_copyRow rfl rfl ?_
  show AW S m_X11_copyRow 12 _ _ 0 0 0 [some (.ref p), some (.ref q)] [] (hp I L w1 w2 t)
  refine a_l0 rfl rfl rfl ?_
  refine a_s rfl rfl ?_
  refine a_l1 rfl rfl rfl ?_
  refine a_s rfl rfl ?_
  refine a_l0 rfl rfl rfl ?_
  refine a_len rfl h1 rfl rfl ?_
  refine a_l1 rfl rfl rfl ?_
  refine a_len rfl h2 rfl rfl ?_
  refine a_min rfl lX11_350 mj_min rfl rfl ?_
  rw [ite_self]
  refine a_copy rfl lX11_398 ac_1 h1 h2 (by decide) (by decide) (nI_pos (K0_lt h1)) (by rw [nI_clamp (K0_lt h1)]; simp) (by rw [nI_clamp (K0_lt h1)]; simp) rfl rfl ?_
  refine a_congr (I' := upr I q f) (fun x k hm => ?_) ?_
  · by_cases hx : x = q
    · subst hx
      rw [upr_at, upr_at]
      have hk : k < n := by
        unfold mI at hm
        rw [h2] at hm
        exact Nat.le_of_ble_eq_true hm
      unfold va_cpy
      rw [nI_clamp (K0_lt h1), if_pos ⟨by simp, by simpa using hk⟩, hf]
      simp
    · rw [upr_row hx, upr_row hx]
  refine a_vret rfl rfl ⟨rfl, rfl⟩
theorem sp_X5_copyFrom {S : aS} {I : Nat → Nat → Int32} {L : Nat → Nat → Int64} {w1 w2 t : Nat} {a b : Nat} (ha : stp a) (hb : stp b) (hne : a ≠ b) : SpE S m_X5_copyFrom 13 [.ref a, .ref b] (hp I L w1 w2 t) none (hp (cpS I a b 9) L w1 w2 t) := by
  refine SpE_of ok_X5_copyFrom rfl rfl ?_
  show AW S m_X5_copyFrom 13 _ _ 0 0 0 [some (.ref a), some (.ref b)] [] (hp I L w1 w2 t)
  have hd := stp_apart a ha b hb hne
  refine a_l0 rfl rfl rfl ?_
  refine a_l1 rfl rfl rfl ?_
  refine a_getiv (v := I b 0) rfl gfX5_56_5 (kS0 hb) (by simp (disch := omega) only [up2_row, upr_row]) ?_
  refine a_puti rfl pfX5_56_5 (kS0 ha) ?_
  refine a_l1 rfl rfl rfl ?_
  refine a_getq rfl gfX5_9_5 (kS0 hb) (rS1 hb) ?_
  refine a_l0 rfl rfl rfl ?_
  refine a_getq rfl gfX5_9_5 (kS0 ha) (rS1 ha) ?_
  refine a_eSN0 rfl lX5_59 mo_X11_copyRow (sp_X11_copyRow (f := I (b + 1)) (kS1 hb) (kS1 ha) (by simp (disch := omega) only [up2_row, upr_row])) rfl rfl rfl rfl ?_
  refine a_l1 rfl rfl rfl ?_
  refine a_getq rfl gfX5_15_5 (kS0 hb) (rS2 hb) ?_
  refine a_l0 rfl rfl rfl ?_
  refine a_getq rfl gfX5_15_5 (kS0 ha) (rS2 ha) ?_
  refine a_eSN0 rfl lX5_59 mo_X11_copyRow (sp_X11_copyRow (f := I (b + 2)) (kS2 hb) (kS2 ha) (by simp (disch := omega) only [up2_row, upr_row])) rfl rfl rfl rfl ?_
  refine a_l0 rfl rfl rfl ?_
  refine a_l1 rfl rfl rfl ?_
  refine a_getiv (v := I b 3) rfl gfX5_63_5 (kS0 hb) (by simp (disch := omega) only [up2_row, upr_row]) ?_
  refine a_puti rfl pfX5_63_5 (kS0 ha) ?_
  refine a_l1 rfl rfl rfl ?_
  refine a_getq rfl gfX5_18_5 (kS0 hb) (rS4 hb) ?_
  refine a_l0 rfl rfl rfl ?_
  refine a_getq rfl gfX5_18_5 (kS0 ha) (rS4 ha) ?_
  refine a_eSN0 rfl lX5_59 mo_X11_copyRow (sp_X11_copyRow (f := I (b + 3)) (kS3 hb) (kS3 ha) (by simp (disch := omega) only [up2_row, upr_row])) rfl rfl rfl rfl ?_
  refine a_l1 rfl rfl rfl ?_
  refine a_getq rfl gfX5_21_5 (kS0 hb) (rS5 hb) ?_
  refine a_l0 rfl rfl rfl ?_
  refine a_getq rfl gfX5_21_5 (kS0 ha) (rS5 ha) ?_
  refine a_eSN0 rfl lX5_59 mo_X11_copyRow (sp_X11_copyRow (f := I (b + 4)) (kS4 hb) (kS4 ha) (by simp (disch := omega) only [up2_row, upr_row])) rfl rfl rfl rfl ?_
  refine a_l1 rfl rfl rfl ?_
  refine a_getq rfl gfX5_24_5 (kS0 hb) (rS6 hb) ?_
  refine a_l0 rfl rfl rfl ?_
  refine a_getq rfl gfX5_24_5 (kS0 ha) (rS6 ha) ?_
  refine a_eSN0 rfl lX5_59 mo_X11_copyRow (sp_X11_copyRow (f := I (b + 5)) (kS5 hb) (kS5 ha) (by simp (disch := omega) only [up2_row, upr_row])) rfl rfl rfl rfl ?_
  refine a_l1 rfl rfl rfl ?_
  refine a_getq rfl gfX5_27_5 (kS0 hb) (rS7 hb) ?_
  refine a_l0 rfl rfl rfl ?_
  refine a_getq rfl gfX5_27_5 (kS0 ha) (rS7 ha) ?_
  refine a_eSN0 rfl lX5_59 mo_X11_copyRow (sp_X11_copyRow (f := I (b + 6)) (kS6 hb) (kS6 ha) (by simp (disch := omega) only [up2_row, upr_row])) rfl rfl rfl rfl ?_
  refine a_l1 rfl rfl rfl ?_
  refine a_getq rfl gfX5_30_5 (kS0 hb) (rS8 hb) ?_
  refine a_l0 rfl rfl rfl ?_
  refine a_getq rfl gfX5_30_5 (kS0 ha) (rS8 ha) ?_
  refine a_eSN0 rfl lX5_59 mo_X11_copyRow (sp_X11_copyRow (f := I (b + 7)) (kS7 hb) (kS7 ha) (by simp (disch := omega) only [up2_row, upr_row])) rfl rfl rfl rfl ?_
  refine a_l1 rfl rfl rfl ?_
  refine a_getq rfl gfX5_33_5 (kS0 hb) (rS9 hb) ?_
  refine a_l0 rfl rfl rfl ?_
  refine a_getq rfl gfX5_33_5 (kS0 ha) (rS9 ha) ?_
  refine a_eSN0 rfl lX5_59 mo_X11_copyRow (sp_X11_copyRow (f := I (b + 8)) (kS8 hb) (kS8 ha) (by simp (disch := omega) only [up2_row, upr_row])) rfl rfl rfl rfl ?_
  refine a_l0 rfl rfl rfl ?_
  refine a_l1 rfl rfl rfl ?_
  refine a_getiv (v := I b 10) rfl gfX5_36_5 (kS0 hb) (by simp (disch := omega) only [up2_row, upr_row]) ?_
  refine a_puti rfl pfX5_36_5 (kS0 ha) ?_
  refine a_l0 rfl rfl rfl ?_
  refine a_l1 rfl rfl rfl ?_
  refine a_getiv (v := I b 11) rfl gfX5_66_5 (kS0 hb) (by simp (disch := omega) only [up2_row, upr_row]) ?_
  refine a_puti rfl pfX5_66_5 (kS0 ha) ?_
  refine a_l0 rfl rfl rfl ?_
  refine a_l1 rfl rfl rfl ?_
  refine a_getiv (v := I b 12) rfl gfX5_69_5 (kS0 hb) (by simp (disch := omega) only [up2_row, upr_row]) ?_
  refine a_puti rfl pfX5_69_5 (kS0 ha) ?_
  refine a_l0 rfl rfl rfl ?_
  refine a_l1 rfl rfl rfl ?_
  refine a_getiv (v := I b 13) rfl gfX5_40_5 (kS0 hb) (by simp (disch := omega) only [up2_row, upr_row]) ?_
  refine a_puti rfl pfX5_40_5 (kS0 ha) ?_
  refine a_l0 rfl rfl rfl ?_
  refine a_l1 rfl rfl rfl ?_
  refine a_getiv (v := I b 14) rfl gfX5_43_5 (kS0 hb) (by simp (disch := omega) only [up2_row, upr_row]) ?_
  refine a_puti rfl pfX5_43_5 (kS0 ha) ?_
  refine a_l0 rfl rfl rfl ?_
  refine a_l1 rfl rfl rfl ?_
  refine a_getiv (v := I b 15) rfl gfX5_46_5 (kS0 hb) (by simp (disch := omega) only [up2_row, upr_row]) ?_
  refine a_puti rfl pfX5_46_5 (kS0 ha) ?_
  refine a_l0 rfl rfl rfl ?_
  refine a_l1 rfl rfl rfl ?_
  refine a_getiv (v := I b 16) rfl gfX5_72_5 (kS0 hb) (by simp (disch := omega) only [up2_row, upr_row]) ?_
  refine a_puti rfl pfX5_72_5 (kS0 ha) ?_
  refine a_congr (I' := cpS I a b 9) (fun p k hm => ?_) (a_vret rfl rfl ⟨rfl, rfl⟩)
  by_cases h : a ≤ p ∧ p < a + 9
  · obtain ⟨i, rfl⟩ := Nat.exists_eq_add_of_le h.1
    have hi : i < 9 := by omega
    rw [cpS_in hi]
    rcases i with _ | _ | _ | _ | _ | _ | _ | _ | _ | i
    · have hk : (Nat.blt k 18 && isIntTy (tyX5 k)) = true := by
        unfold mI at hm
        rw [show a + 0 = a from rfl, kS0 ha] at hm
        exact hm
      simp (disch := omega) only [Nat.add_zero, upr_row]
      rcases k with _ | _ | _ | _ | _ | _ | _ | _ | _ | _ | _ | _ | _ | _ | _ | _ | _ | _ | k <;> first | (cases hk; done) | (simp [up2, upr]; done) | skip
    all_goals first | (simp (disch := omega) only [up2_row, upr_row, upr_at]; done) | (exfalso; omega)
  · rw [cpS_out h]
    simp (disch := omega) only [up2_row, upr_row]
theorem sp_X1_copyFrom {S : aS} {I : Nat → Nat → Int32} {L : Nat → Nat → Int64} {w1 w2 t : Nat} {a b : Nat} (ha : stp a) (hb : stp b) (hne : a ≠ b) : SpE S m_X1_copyFrom 13 [.ref (a + 9), .ref (b + 9)] (hp I L w1 w2 t) none (hp (cpS I (a + 9) (b + 9) 2) L w1 w2 t) := by
  refine SpE_of ok_X1_copyFrom rfl rfl ?_
  show AW S m_X1_copyFrom 13 _ _ 0 0 0 [some (.ref (a + 9)), some (.ref (b + 9))] [] (hp I L w1 w2 t)
  have hd := stp_apart a ha b hb hne
  refine a_l0 rfl rfl rfl ?_
  refine a_l1 rfl rfl rfl ?_
  refine a_getiv (v := I (b + 9) 0) rfl gfX1_15_1 (kS9 hb) (by simp (disch := omega) only [up2_row, upr_row]) ?_
  refine a_puti rfl pfX1_15_1 (kS9 ha) ?_
  refine a_l0 rfl rfl rfl ?_
  refine a_l1 rfl rfl rfl ?_
  refine a_getiv (v := I (b + 9) 1) rfl gfX1_19_1 (kS9 hb) (by simp (disch := omega) only [up2_row, upr_row]) ?_
  refine a_puti rfl pfX1_19_1 (kS9 ha) ?_
  refine a_l1 rfl rfl rfl ?_
  refine a_getq rfl gfX1_11_1 (kS9 hb) (rS29 hb) ?_
  refine a_l0 rfl rfl rfl ?_
  refine a_getq rfl gfX1_11_1 (kS9 ha) (rS29 ha) ?_
  refine a_eSN0 rfl lX1_22 mo_X11_copyRow (sp_X11_copyRow (f := I (b + 10)) (kS10 hb) (kS10 ha) (by simp (disch := omega) only [up2_row, upr_row])) rfl rfl rfl rfl ?_
  refine a_congr (I' := cpS I (a + 9) (b + 9) 2) (fun p k hm => ?_) (a_vret rfl rfl ⟨rfl, rfl⟩)
  by_cases h : a + 9 ≤ p ∧ p < a + 9 + 2
  · obtain ⟨i, rfl⟩ := Nat.exists_eq_add_of_le h.1
    have hi : i < 2 := by omega
    rw [cpS_in hi]
    rcases i with _ | _ | i
    · have hk : (Nat.blt k 3 && isIntTy (tyX1 k)) = true := by
        unfold mI at hm
        rw [show a + 9 + 0 = a + 9 from rfl, kS9 ha] at hm
        exact hm
      simp (disch := omega) only [Nat.add_zero, upr_row]
      rcases k with _ | _ | _ | k <;> first | (cases hk; done) | (simp [up2, upr]; done) | skip
    all_goals first | (simp (disch := omega) only [up2_row, upr_row, upr_at]; done) | (show upr _ (a + 10) _ (a + 10) _ = _; rw [upr_at]; done) | (exfalso; omega)
  · rw [cpS_out h]
    simp (disch := omega) only [up2_row, upr_row]
theorem sp_X5_copyAll {S : aS} {I : Nat → Nat → Int32} {L : Nat → Nat → Int64} {w1 w2 t : Nat} {a b : Nat} (ha : stp a) (hb : stp b) (hne : a ≠ b) : SpE S m_X5_copyAll 14 [.ref a, .ref b] (hp I L w1 w2 t) none (hp (cpS I a b 11) L w1 w2 t) := by
  refine SpE_of ok_X5_copyAll rfl rfl ?_
  show AW S m_X5_copyAll 14 _ _ 0 0 0 [some (.ref a), some (.ref b)] [] (hp I L w1 w2 t)
  refine a_l0 rfl rfl rfl ?_
  refine a_l1 rfl rfl rfl ?_
  refine a_eV0 rfl lX5_75 mo_X5_copyFrom (sp_X5_copyFrom ha hb hne) rfl rfl rfl ⟨5, _, (kS0 ha), rfl, rfl⟩ rfl ?_
  refine a_l0 rfl rfl rfl ?_
  refine a_getq rfl gfX5_52_5 (kS0 ha) (rS17 ha) ?_
  refine a_l1 rfl rfl rfl ?_
  refine a_getq rfl gfX5_52_5 (kS0 hb) (rS17 hb) ?_
  refine a_eV0 rfl lX5_79 mo_X1_copyFrom (sp_X1_copyFrom ha hb hne) rfl rfl rfl ⟨1, _, (kS9 ha), rfl, rfl⟩ rfl ?_
  refine a_vret rfl rfl ⟨rfl, by rw [cpS_all (stp_apart a ha b hb hne)]⟩
theorem sp_X2_copyFrom {S : aS} {I : Nat → Nat → Int32} {L : Nat → Nat → Int64} {w1 w2 t : Nat} {a b : Nat} (ha : lwp a) (hb : lwp b) (hne : a ≠ b) : SpE S m_X2_copyFrom 13 [.ref a, .ref b] (hp I L w1 w2 t) none (hp (cpL I a b) L w1 w2 t) := by
  refine SpE_of ok_X2_copyFrom rfl rfl ?_
  show AW S m_X2_copyFrom 13 _ _ 0 0 0 [some (.ref a), some (.ref b)] [] (hp I L w1 w2 t)
  have hd := lwp_apart a ha b hb hne
  refine a_l0 rfl rfl rfl ?_
  refine a_l1 rfl rfl rfl ?_
  refine a_getiv (v := I b 0) rfl gfX2_11_2 (kW0 hb) (by simp (disch := omega) only [up2_row, upr_row]) ?_
  refine a_puti rfl pfX2_11_2 (kW0 ha) ?_
  refine a_l1 rfl rfl rfl ?_
  refine a_getq rfl gfX2_15_2 (kW0 hb) (rW2 hb) ?_
  refine a_l0 rfl rfl rfl ?_
  refine a_getq rfl gfX2_15_2 (kW0 ha) (rW2 ha) ?_
  refine a_eSN0 rfl lX2_37 mo_X11_copyRow (sp_X11_copyRow (f := I (b + 1)) (kW1 hb) (kW1 ha) (by simp (disch := omega) only [up2_row, upr_row])) rfl rfl rfl rfl ?_
  refine a_l1 rfl rfl rfl ?_
  refine a_getq rfl gfX2_19_2 (kW0 hb) (rW3 hb) ?_
  refine a_l0 rfl rfl rfl ?_
  refine a_getq rfl gfX2_19_2 (kW0 ha) (rW3 ha) ?_
  refine a_eSN0 rfl lX2_37 mo_X11_copyRow (sp_X11_copyRow (f := I (b + 2)) (kW2 hb) (kW2 ha) (by simp (disch := omega) only [up2_row, upr_row])) rfl rfl rfl rfl ?_
  refine a_l1 rfl rfl rfl ?_
  refine a_getq rfl gfX2_22_2 (kW0 hb) (rW4 hb) ?_
  refine a_l0 rfl rfl rfl ?_
  refine a_getq rfl gfX2_22_2 (kW0 ha) (rW4 ha) ?_
  refine a_eSN0 rfl lX2_37 mo_X11_copyRow (sp_X11_copyRow (f := I (b + 3)) (kW3 hb) (kW3 ha) (by simp (disch := omega) only [up2_row, upr_row])) rfl rfl rfl rfl ?_
  refine a_l1 rfl rfl rfl ?_
  refine a_getq rfl gfX2_25_2 (kW0 hb) (rW5 hb) ?_
  refine a_l0 rfl rfl rfl ?_
  refine a_getq rfl gfX2_25_2 (kW0 ha) (rW5 ha) ?_
  refine a_eSN0 rfl lX2_37 mo_X11_copyRow (sp_X11_copyRow (f := I (b + 4)) (kW4 hb) (kW4 ha) (by simp (disch := omega) only [up2_row, upr_row])) rfl rfl rfl rfl ?_
  refine a_l1 rfl rfl rfl ?_
  refine a_getq rfl gfX2_28_2 (kW0 hb) (rW6 hb) ?_
  refine a_l0 rfl rfl rfl ?_
  refine a_getq rfl gfX2_28_2 (kW0 ha) (rW6 ha) ?_
  refine a_eSN0 rfl lX2_37 mo_X11_copyRow (sp_X11_copyRow (f := I (b + 5)) (kW5 hb) (kW5 ha) (by simp (disch := omega) only [up2_row, upr_row])) rfl rfl rfl rfl ?_
  refine a_congr (I' := cpL I a b) (fun p k hm => ?_) (a_vret rfl rfl ⟨rfl, rfl⟩)
  unfold cpL
  by_cases h : a + 1 ≤ p ∧ p < a + 1 + 5
  · rw [up2_row (by omega)]
    obtain ⟨i, rfl⟩ := Nat.exists_eq_add_of_le h.1
    have hi : i < 5 := by omega
    rw [cpS_in hi]
    rcases i with _ | _ | _ | _ | _ | i
    all_goals first | (simp (disch := omega) only [Nat.add_zero, up2_row, upr_row, upr_at]; done) | (simp (disch := omega) only [up2_row, upr_row]; rw [show b + 1 + 1 = b + 2 from rfl]; show upr _ (a + 2) _ (a + 2) k = _; rw [upr_at]; done) | (exfalso; omega) | skip
  · by_cases hp : p = a
    · subst hp
      simp (disch := omega) only [upr_row]
      by_cases hk : k = 0
      · subst hk
        rw [up2_at, up2_at]
      · rw [up2_ne (Or.inr hk), up2_ne (Or.inr hk), cpS_out (by omega)]
    · rw [up2_row hp, cpS_out h]
      simp (disch := omega) only [up2_row, upr_row]
theorem sp_X12_keepsAll {S : aS} {I : Nat → Nat → Int32} {L : Nat → Nat → Int64} {w1 w2 t : Nat}  : SpE S m_X12_keepsAll 12 [.ref 420] (hp I L w1 w2 t) none (hp (cpP I 424 421 335) L w1 w2 t) := by
  refine SpE_of ok_X12_keepsAll rfl rfl ?_
  show AW S m_X12_keepsAll 12 _ _ 0 0 0 [some (.ref 420), none] [] (hp I L w1 w2 t)
  refine a_s rfl rfl ?_
  refine a_s1 rfl rfl rfl rfl rfl rfl ?_
  refine a_forE (n := 335) (fun j => [some (.ref 420), some (.int (nI j))]) (fun j => hp (cpP I 424 421 j) L w1 w2 t) (by simp [lsub, nI_0]) (by rw [cpP_0]) ?_ (fun j hj ih2 => ?_)
  · refine a_l1 rfl rfl rfl ?_
    refine a_s rfl rfl ?_
    refine a_ic_ge rfl (fun c6 => ?_) (fun c => absurd (Int32.le_refl _) c)
    refine a_vret rfl rfl ⟨rfl, rfl⟩
  · refine a_l1 rfl rfl rfl ?_
    refine a_s rfl rfl ?_
    refine a_ic_ge rfl (fun c => absurd c (nI_ge (b := 335) hj (by omega))) (fun c6 => ?_)
    refine a_l0 rfl rfl rfl ?_
    refine a_getq rfl gfX12_23_12 rfl (rfl) ?_
    refine a_l1 rfl rfl rfl ?_
    refine a_l0 rfl rfl rfl ?_
    refine a_getq rfl gfX12_13_12 rfl (rfl) ?_
    refine a_l1 rfl rfl rfl ?_
    refine a_ialdv (v := I 421 j) rfl (n := 2033) rfl (inI_nI (by omega) (by omega)) (by rw [nI_clamp (by omega), cpP_src (by decide)]) ?_
    refine a_iastv (k := j) rfl (n := 335) rfl (inI_nI (by omega) (by omega)) (nI_clamp (by omega)) ?_
    rw [cpP_succ]
    refine a_i1 rfl rfl rfl ?_
    refine a_goto rfl ?_
    exact a_back ih2 (by simp [lsub, nI_1]) rfl
theorem sp_X12_bringsBack {S : aS} {I : Nat → Nat → Int32} {L : Nat → Nat → Int64} {w1 w2 t : Nat}  : SpE S m_X12_bringsBack 12 [.ref 420] (hp I L w1 w2 t) none (hp (cpP I 421 424 335) L w1 w2 t) := by
  refine SpE_of ok_X12_bringsBack rfl rfl ?_
  show AW S m_X12_bringsBack 12 _ _ 0 0 0 [some (.ref 420), none] [] (hp I L w1 w2 t)
  refine a_s rfl rfl ?_
  refine a_s1 rfl rfl rfl rfl rfl rfl ?_
  refine a_forE (n := 335) (fun j => [some (.ref 420), some (.int (nI j))]) (fun j => hp (cpP I 421 424 j) L w1 w2 t) (by simp [lsub, nI_0]) (by rw [cpP_0]) ?_ (fun j hj ih2 => ?_)
  · refine a_l1 rfl rfl rfl ?_
    refine a_s rfl rfl ?_
    refine a_ic_ge rfl (fun c6 => ?_) (fun c => absurd (Int32.le_refl _) c)
    refine a_vret rfl rfl ⟨rfl, rfl⟩
  · refine a_l1 rfl rfl rfl ?_
    refine a_s rfl rfl ?_
    refine a_ic_ge rfl (fun c => absurd c (nI_ge (b := 335) hj (by omega))) (fun c6 => ?_)
    refine a_l0 rfl rfl rfl ?_
    refine a_getq rfl gfX12_13_12 rfl (rfl) ?_
    refine a_l1 rfl rfl rfl ?_
    refine a_l0 rfl rfl rfl ?_
    refine a_getq rfl gfX12_23_12 rfl (rfl) ?_
    refine a_l1 rfl rfl rfl ?_
    refine a_ialdv (v := I 424 j) rfl (n := 335) rfl (inI_nI (by omega) (by omega)) (by rw [nI_clamp (by omega), cpP_src (by decide)]) ?_
    refine a_iastv (k := j) rfl (n := 2033) rfl (inI_nI (by omega) (by omega)) (nI_clamp (by omega)) ?_
    rw [cpP_succ]
    refine a_i1 rfl rfl rfl ?_
    refine a_goto rfl ?_
    exact a_back ih2 (by simp [lsub, nI_1]) rfl
