/-! ===== safe walks: what may change, loops that count up, switches ===== -/
/-- of the heap's ints only those of s may have changed -/
def Fm (s : Nat → Nat → Bool) (I I' : Nat → Nat → Int32) : Prop := ∀ q k, s q k = false → I' q k = I q k
theorem Fm.rf {s : Nat → Nat → Bool} {I : Nat → Nat → Int32} : Fm s I I := fun _ _ _ => rfl
theorem Fm.tr {s : Nat → Nat → Bool} {I I' I'' : Nat → Nat → Int32} (h : Fm s I I') (h2 : Fm s I' I'') : Fm s I I'' := fun q k hq => (h2 q k hq).trans (h q k hq)
theorem Fm.mo {s s' : Nat → Nat → Bool} {I I' : Nat → Nat → Int32} (h : Fm s I I') (hs : ∀ q k, s q k = true → s' q k = true) : Fm s' I I' := fun q k hq => h q k (by
  cases h2 : s q k with
  | false => rfl
  | true => rw [hs q k h2] at hq; cases hq)
theorem Fm.up {s : Nat → Nat → Bool} {I I' : Nat → Nat → Int32} {p j : Nat} {v : Int32} (h : Fm s I I') (hs : s p j = true) : Fm s I (up2 I' p j v) := fun q k hq => by
  rw [up2_ne (by
    by_cases h1 : q = p
    · by_cases h2 : k = j
      · subst h1; subst h2; rw [hs] at hq; cases hq
      · exact Or.inr h2
    · exact Or.inl h1)]
  exact h q k hq
theorem Fm.row {s : Nat → Nat → Bool} {I I' : Nat → Nat → Int32} {p : Nat} {f : Nat → Int32} (h : Fm s I I') (hs : ∀ k, s p k = true) : Fm s I (upr I' p f) := fun q k hq => by
  rw [upr_row (by intro e; subst e; rw [hs] at hq; cases hq)]
  exact h q k hq
theorem Fm.of1 {s : Nat → Nat → Bool} {I I1 I' : Nat → Nat → Int32} {p : Nat} (h : Fm s I I1) (hf : ∀ q, q ≠ p → I' q = I1 q) (hs : ∀ k, s p k = true) : Fm s I I' := fun q k hq => by
  rw [hf q (by intro e; subst e; rw [hs] at hq; cases hq)]
  exact h q k hq
theorem setF_row {I : Nat → Nat → Int32} {p n q : Nat} {i v : Int32} (h : q ≠ p) : setF I p n i v q = I q := by
  unfold setF
  split
  · rfl
  · split
    · rfl
    · exact up2_row h
theorem Fm.st {s : Nat → Nat → Bool} {I I' : Nat → Nat → Int32} {p n : Nat} {i v : Int32} (h : Fm s I I') (hs : ∀ k, s p k = true) : Fm s I (setF I' p n i v) := h.of1 (fun _ hq => setF_row hq) hs
theorem Fm.cp {s : Nat → Nat → Bool} {I I' : Nat → Nat → Int32} {a b m : Nat} (h : Fm s I I') (hs : ∀ i k, i < m → s (a + i) k = true) : Fm s I (cpS I' a b m) := fun q k hq => by
  rw [cpS_out (by
    intro z
    have := hs (q - a) k (by omega)
    rw [show a + (q - a) = q by omega, hq] at this
    cases this)]
  exact h q k hq
abbrev isI : Option Value → Prop := fun v => ∃ x, v = some (.int x)
abbrev isZ : Option Value → Prop := fun v => ∃ b, v = some (.int (bI b))
abbrev isV : Option Value → Prop := fun v => v = none
abbrev isL : Option Value → Prop := fun v => ∃ x, v = some (.long x)
/-- it ends so, and nothing has changed -/
abbrev QE (z : Option Value → Prop) (h : aH) : Option Value → aH → Prop := fun v h' => z v ∧ h' = h
/-- it ends so, in a heap of which P holds -/
abbrev QR (P : (Nat → Nat → Int32) → Prop) (z : Option Value → Prop) (L : Nat → Nat → Int64) (w1 w2 t : Nat) : Option Value → aH → Prop := fun v h' => z v ∧ ∃ I', h' = hp I' L w1 w2 t ∧ P I'
abbrev nX : String → aH → Prop := fun _ _ => False
section A53
variable {S : aS} {C C' : aM} {d d' : Nat} {Q Q' : Option Value → aH → Prop} {X X' : String → aH → Prop} {k1 k2 j1 j2 pc np tgt n : Nat} {w : Int32} {ls ls' : List (Option Value)} {st st' st0 : List Value} {h h' : aH} {ins : Instr} {As : List Value} {v : Value}
variable {K : Nat → Nat × Nat} {I I' : Nat → Nat → Int32} {L : Nat → Nat → Int64} {R : Nat → Nat → Nat} {t : Nat}
/-- a name for a heap -/
theorem a_ren {w1 w2 : Nat} {P : (Nat → Nat → Int32) → Prop} (f : P I) (k : ∀ I', P I' → AW S C d Q X k1 k2 pc ls st (hp I' L w1 w2 t)) : AW S C d Q X k1 k2 pc ls st (hp I L w1 w2 t) := k I f
theorem nS (j : Nat) : some (Value.int (nI j + 1)) = some (Value.int (nI (j + 1))) := by rw [nI_succ]
theorem nI_b1 {b : Int32} {j : Nat} (hj : j < 2 ^ 31) (h : ¬ b ≤ nI j) : j + 1 < 2 ^ 31 := by
  rw [Int32.le_iff_toInt_le, nI_toInt hj] at h
  have := Int32.toInt_lt b
  omega
theorem nI_gt1 {a j : Nat} (ha : a + 1 < 2 ^ 31) (hj : j < 2 ^ 31) (h : ¬ nI a < nI j) : ¬ nI (a + 1) ≤ nI j := by
  rw [Int32.lt_iff_toInt_lt, nI_toInt (by omega), nI_toInt hj] at h
  rw [Int32.le_iff_toInt_le, nI_toInt ha, nI_toInt hj]
  omega
/-- a loop that counts up: a place's invariant -/
theorem a_cnt (P : Nat → List (Option Value) → aH → Prop) {j0 : Nat} {ls0 : List (Option Value)} (hj0 : j0 < 2 ^ 31) (h0 : P j0 ls0 h) (e : lsub ls0 ls)
    (hs : ∀ j ls h, j < 2 ^ 31 → P j ls h → (∀ b ls' ls'' h', ¬ b ≤ nI j → P (j + 1) ls' h' → lsub ls' ls'' → AW S C d Q X k1 k2 pc ls'' st h') → AW S C d Q X k1 k2 pc ls st h) : AW S C d Q X k1 k2 pc ls st h := by
  refine a_less (ls' := ls0) ?_ e
  have key : ∀ m j ls h, j + m = 2 ^ 31 → 0 < m → P j ls h → AW S C d Q X k1 k2 pc ls st h := by
    intro m
    induction m using Nat.strongRecOn with
    | _ m ih =>
      intro j ls h hm h0 hp
      refine hs j ls h (by omega) hp fun b ls' ls'' h' hb hp' hl => ?_
      have := nI_b1 (by omega) hb
      exact a_less (ih (m - 1) (by omega) (j + 1) ls' h' (by omega) (by omega) hp') hl
  exact key (2 ^ 31 - j0) j0 ls0 h (by omega) (by omega) h0
theorem i_succ {x b : Int32} (h : ¬ b ≤ x) : (x + 1).toInt = x.toInt + 1 := by
  have h1 : x.toInt < b.toInt := by
    rw [Int32.le_iff_toInt_le] at h
    omega
  have h2 := Int32.toInt_lt b
  have h3 := Int32.le_toInt x
  rw [Int32.toInt_add, show (1 : Int32).toInt = 1 from rfl]
  exact Int.bmod_eq_of_le (by omega) (by omega)
/-- the same, wherever it begins -/
theorem a_cntI (P : Int32 → List (Option Value) → aH → Prop) {x0 : Int32} {ls0 : List (Option Value)} (h0 : P x0 ls0 h) (e : lsub ls0 ls)
    (hs : ∀ x ls h, P x ls h → (∀ b ls' ls'' h', ¬ b ≤ x → P (x + 1) ls' h' → lsub ls' ls'' → AW S C d Q X k1 k2 pc ls'' st h') → AW S C d Q X k1 k2 pc ls st h) : AW S C d Q X k1 k2 pc ls st h := by
  refine a_less (ls' := ls0) ?_ e
  have key : ∀ (m : Nat) (x : Int32) ls h, x.toInt + m = 2 ^ 31 → P x ls h → AW S C d Q X k1 k2 pc ls st h := by
    intro m
    induction m using Nat.strongRecOn with
    | _ m ih =>
      intro x ls h hm hp
      refine hs x ls h hp fun b ls' ls'' h' hb hp' hl => ?_
      have h9 := i_succ hb
      have h8 := Int32.toInt_lt x
      exact a_less (ih (m - 1) (by omega) (x + 1) ls' h' (by omega) hp') hl
  have h7 := Int32.toInt_lt x0
  exact key (2 ^ 31 - x0.toInt).toNat x0 ls0 h (by omega) h0
/-- .. by twos, to a bound that is small -/
theorem a_cntI2 (P : Int32 → List (Option Value) → aH → Prop) {x0 : Int32} {ls0 : List (Option Value)} (h0 : P x0 ls0 h) (e : lsub ls0 ls)
    (hs : ∀ x ls h, P x ls h → (∀ b ls' ls'' h', (¬ b ≤ x ∧ ¬ 40 < b) → P (x + 2) ls' h' → lsub ls' ls'' → AW S C d Q X k1 k2 pc ls'' st h') → AW S C d Q X k1 k2 pc ls st h) : AW S C d Q X k1 k2 pc ls st h := by
  refine a_less (ls' := ls0) ?_ e
  have key : ∀ (m : Nat) (x : Int32) ls h, x.toInt + m = 2 ^ 31 → P x ls h → AW S C d Q X k1 k2 pc ls st h := by
    intro m
    induction m using Nat.strongRecOn with
    | _ m ih =>
      intro x ls h hm hp
      refine hs x ls h hp fun b ls' ls'' h' hb hp' hl => ?_
      obtain ⟨hb, hb4⟩ := hb
      have h9 : (x + 2).toInt = x.toInt + 2 := by
        have h1 : x.toInt < b.toInt := by
          rw [Int32.le_iff_toInt_le] at hb
          omega
        have h2 : b.toInt ≤ 40 := by
          rw [Int32.lt_iff_toInt_lt, show (40 : Int32).toInt = 40 from rfl] at hb4
          omega
        have h3 := Int32.le_toInt x
        rw [Int32.toInt_add, show (2 : Int32).toInt = 2 from rfl]
        exact Int.bmod_eq_of_le (by omega) (by omega)
      have h8 := Int32.toInt_lt x
      have h6 := Int32.toInt_lt (x + 2)
      exact a_less (ih (m - 2) (by omega) (x + 2) ls' h' (by omega) hp') hl
  have h7 := Int32.toInt_lt x0
  exact key (2 ^ 31 - x0.toInt).toNat x0 ls0 h (by omega) h0
theorem a_lsw2 {dflt a b oa ob : Int} {x : Int32} (hC : look C pc = some (.lookupswitch dflt #[(a, oa), (b, ob)], np, tgt, w)) (hab : a < b) (h0 : 0 ≤ (pc : Int) + oa ∧ 0 ≤ (pc : Int) + ob ∧ 0 ≤ (pc : Int) + dflt)
    (ka : x.toInt = a → AW S C d Q X k1 k2 ((pc : Int) + oa).toNat ls st h) (kb : x.toInt = b → AW S C d Q X k1 k2 ((pc : Int) + ob).toNat ls st h) (kd : ¬ x.toInt = a → ¬ x.toInt = b → AW S C d Q X k1 k2 ((pc : Int) + dflt).toNat ls st h) : AW S C d Q X k1 k2 pc ls (.int x :: st) h := by
  have hp : (#[(a, oa), (b, ob)].toList.zip (#[(a, oa), (b, ob)].toList.drop 1)).all (fun (a, next) => a.1 < next.1) = true := by simp [hab]
  by_cases e1 : x.toInt = a
  · refine a_lsw hC hp ?_ (ka e1)
    have : Op.lookupswitch.offset #[(a, oa), (b, ob)].toList dflt x.toInt = oa := by simp [Op.lookupswitch.offset, e1]
    rw [this]
    omega
  · by_cases e2 : x.toInt = b
    · refine a_lsw hC hp ?_ (kb e2)
      have : Op.lookupswitch.offset #[(a, oa), (b, ob)].toList dflt x.toInt = ob := by
        have e3 : ¬ a = x.toInt := fun z => e1 z.symm
        simp [Op.lookupswitch.offset, e2, e3]
        intro z
        exact absurd z (by omega)
      rw [this]
      omega
    · refine a_lsw hC hp ?_ (kd e1 e2)
      have : Op.lookupswitch.offset #[(a, oa), (b, ob)].toList dflt x.toInt = dflt := by
        have e3 : ¬ a = x.toInt := fun z => e1 z.symm
        have e4 : ¬ b = x.toInt := fun z => e2 z.symm
        simp [Op.lookupswitch.offset, e3, e4]
      rw [this]
      omega
theorem a_pc {pc' : Nat} (e : pc = pc') (k : AW S C d Q X k1 k2 pc' ls st h) : AW S C d Q X k1 k2 pc ls st h := by
  rw [e]
  exact k
/-- a switch over a number of which nothing is known -/
theorem a_tswA {dflt lo hi : Int} {offs : Array Int} {x : Int32} (hC : look C pc = some (.tableswitch dflt lo hi offs, np, tgt, w)) (hpos : 0 ≤ (pc : Int) + dflt ∧ ∀ o ∈ offs, 0 ≤ (pc : Int) + o) (hsz : (offs.size : Int) = hi - lo + 1)
    (kd : (x.toInt < lo ∨ hi < x.toInt) → AW S C d Q X k1 k2 ((pc : Int) + dflt).toNat ls st h) (ki : ∀ (i : Nat) o, offs[i]? = some o → x.toInt = lo + i → AW S C d Q X k1 k2 ((pc : Int) + o).toNat ls st h) : AW S C d Q X k1 k2 pc ls (.int x :: st) h := by
  by_cases hx : x.toInt < lo ∨ hi < x.toInt
  · exact a_tsw hC (by unfold swT; rw [if_pos hx]) hpos (kd hx)
  · have hi2 : (x.toInt - lo).toNat < offs.size := by omega
    have ho : offs[(x.toInt - lo).toNat]? = some offs[(x.toInt - lo).toNat] := Array.getElem?_eq_getElem hi2
    refine a_tsw hC (by unfold swT; rw [if_neg hx, ho]; rfl) hpos (ki _ _ ho ?_)
    omega
/-- calls whose end is known but not their answer -/
theorem a_gV {idx q : Nat} (hC : look C pc = some (.invokevirtual idx, np, tgt, w)) (hl : LK C.1.cls idx C') (hM : MOv C' n) (hs : Sp S C' d' 0 0 (.ref q :: As) h Q' nX) (hn : As.length = n) (h0 : st0 = As.reverse ++ .ref q :: st) (ho : cOk d d' 0 0 k1 k2 st = true) (hq : rcv h q C'.1.cls) (hh : C.2.2.2.2.1 = []) (kr : ∀ v h', Q' v h' → AW S C d Q X k1 k2 np ls (v.toList ++ st) h') : AW S C d Q X k1 k2 pc ls st0 h := a_callV hC hl hM hs hn h0 ho hq hh kr (fun _ _ z => False.elim z)
theorem a_gN {idx q : Nat} (hC : look C pc = some (.invokevirtual idx, np, tgt, w)) (hl : LKn C.1.cls idx C') (hM : MOv C' n) (hs : Sp S C' d' 0 0 (.ref q :: As) h Q' nX) (hn : As.length = n) (h0 : st0 = As.reverse ++ .ref q :: st) (ho : cOk d d' 0 0 k1 k2 st = true) (hq : rcv h q C'.1.cls) (hh : C.2.2.2.2.1 = []) (kr : ∀ v h', Q' v h' → AW S C d Q X k1 k2 np ls (v.toList ++ st) h') : AW S C d Q X k1 k2 pc ls st0 h := a_callN hC hl hM hs hn h0 ho hq hh kr (fun _ _ z => False.elim z)
theorem a_gS {idx : Nat} (hC : look C pc = some (.invokestatic idx, np, tgt, w)) (hl : LK C.1.cls idx C') (hM : MOs C' n) (hs : Sp S C' d' 0 0 As h Q' nX) (hn : As.length = n) (h0 : st0 = As.reverse ++ st) (ho : cOk d d' 0 0 k1 k2 st = true) (hh : C.2.2.2.2.1 = []) (kr : ∀ v h', Q' v h' → AW S C d Q X k1 k2 np ls (v.toList ++ st) h') : AW S C d Q X k1 k2 pc ls st0 h := a_callS hC hl hM hs hn h0 ho hh kr (fun _ _ z => False.elim z)
theorem a_gSN {idx : Nat} (hC : look C pc = some (.invokestatic idx, np, tgt, w)) (hl : LKn C.1.cls idx C') (hM : MOs C' n) (hs : Sp S C' d' 0 0 As h Q' nX) (hn : As.length = n) (h0 : st0 = As.reverse ++ st) (ho : cOk d d' 0 0 k1 k2 st = true) (hh : C.2.2.2.2.1 = []) (kr : ∀ v h', Q' v h' → AW S C d Q X k1 k2 np ls (v.toList ++ st) h') : AW S C d Q X k1 k2 pc ls st0 h := a_callSN hC hl hM hs hn h0 ho hh kr (fun _ _ z => False.elim z)
end A53
/-- the class's scratch: what a law's line is read in, what is chosen among, the street that goes ahead -/
def sQ (q _k : Nat) : Bool := Nat.beq q 252 || (Nat.beq q 253 || (Nat.beq q 255 || (Nat.beq q 256 || (Nat.ble 257 q && Nat.ble q 267))))
/-- exceptions by number: 0 no such thing, 1 a number is none, 2 it cannot be, 3 not supported, 4 no such element -/
def exN : Nat → String
  | 0 => "java/lang/IndexOutOfBoundsException"
  | 1 => "java/lang/IllegalArgumentException"
  | 2 => "java/lang/IllegalStateException"
  | 3 => "java/lang/UnsupportedOperationException"
  | _ => "java/util/NoSuchElementException"
def XR (P : (Nat → Nat → Int32) → Prop) (L : Nat → Nat → Int64) (w1 w2 : Nat) (ks : List Nat) : String → aH → Prop := fun E h' => (∃ k, k ∈ ks ∧ E = exN k) ∧ ∃ I', h' = hp I' L w1 w2 0 ∧ P I'
def XH (ks : List Nat) (h : aH) : String → aH → Prop := fun E h' => (∃ k, k ∈ ks ∧ E = exN k) ∧ h' = h
theorem XR.cm {P P' : (Nat → Nat → Int32) → Prop} {L : Nat → Nat → Int64} {w1 w2 : Nat} {ks ks' : List Nat} {E : String} {h' : aH} (h : XR P' L w1 w2 ks' E h') (hk : ∀ k ∈ ks', k ∈ ks) (f : ∀ I', P' I' → P I') : XR P L w1 w2 ks E h' := by
  obtain ⟨⟨k, h1, h2⟩, I', h3, h4⟩ := h
  exact ⟨⟨k, hk k h1, h2⟩, I', h3, f _ h4⟩
/-- what now may become: its rows, day, month, seed, log -/
def sN (q k : Nat) : Bool := sQ q k || ((Nat.beq q 235 && (Nat.beq k 10 || (Nat.beq k 11 || Nat.beq k 15))) || (Nat.ble 236 q && Nat.ble q 245))
theorem sQ_sN : ∀ q k, sQ q k = true → sN q k = true := fun q k h => by
  unfold sN
  rw [h]
  rfl
/-- the streets that stay: now, the draft, the image, the past: not more than 12 duties -/
def CI (I : Nat → Nat → Int32) : Prop := ∀ a, a ∈ stps → a ≠ 257 → ∃ nd, nd ≤ 12 ∧ I a 3 = nI nd
/-- the class alone has changed, the tape's length and whether there is an image have not -/
def Mt (I I' : Nat → Nat → Int32) : Prop := (∀ q, 420 ≤ q → I' q = I q) ∧ I' 201 1 = I 201 1 ∧ I' 200 10 = I 200 10 ∧ (CI I → CI I') ∧ I' 202 = I 202 ∧ I' 203 1 = I 203 1 ∧ I' 220 1 = I 220 1
theorem Mt.rf {I : Nat → Nat → Int32} : Mt I I := ⟨fun _ _ => rfl, rfl, rfl, id, rfl, rfl, rfl⟩
theorem Mt.tr {I I' I'' : Nat → Nat → Int32} (h : Mt I I') (h2 : Mt I' I'') : Mt I I'' := ⟨fun q hq => (h2.1 q hq).trans (h.1 q hq), h2.2.1.trans h.2.1, h2.2.2.1.trans h.2.2.1, fun z => h2.2.2.2.1 (h.2.2.2.1 z), h2.2.2.2.2.1.trans h.2.2.2.2.1, h2.2.2.2.2.2.1.trans h.2.2.2.2.2.1, h2.2.2.2.2.2.2.trans h.2.2.2.2.2.2⟩
/-- all of the class but these -/
def isSt (q : Nat) : Bool := Nat.beq q 209 || Nat.beq q 235 || (Nat.beq q 268 || stps.any (fun a => Nat.ble 288 a && Nat.beq q a))
def sM (q k : Nat) : Bool := Nat.blt q 420 && (!(Nat.beq q 201 && Nat.beq k 1) && (!(Nat.beq q 200 && Nat.beq k 10) && (!(isSt q && Nat.beq k 3) && (!(Nat.beq q 202) && !((Nat.beq q 203 || Nat.beq q 220) && Nat.beq k 1)))))
theorem sM_hi {q k : Nat} (h : 420 ≤ q) : sM q k = false := by
  have e : Nat.blt q 420 = false := by
    cases hb : Nat.blt q 420 with
    | false => rfl
    | true => exact absurd (Nat.le_of_ble_eq_true hb) (by omega)
  simp [sM, e]
theorem sM_st : ∀ a ∈ stps, a ≠ 257 → sM a 3 = false := by decide +kernel
theorem Mt.of {I I' : Nat → Nat → Int32} (f : Fm sM I I') : Mt I I' := ⟨fun q hq => funext fun k => f q k (sM_hi hq), f 201 1 rfl, f 200 10 rfl, (fun h a ha h2 => by
  rw [f a 3 (sM_st a ha h2)]
  exact h a ha h2), funext fun k => f 202 k rfl, f 203 1 rfl, f 220 1 rfl⟩
theorem Mt.fm {I I' I'' : Nat → Nat → Int32} (h : Mt I I') (f : Fm sM I' I'') : Mt I I'' := h.tr (Mt.of f)
theorem sN_lt {q k : Nat} (h : sN q k = true) : 235 ≤ q ∧ q < 268 ∧ (q = 235 → ¬ k = 3) := by
  simp only [sN, sQ, Bool.or_eq_true, Bool.and_eq_true] at h
  have B : ∀ {a b : Nat}, Nat.beq a b = true → a = b := fun z => Nat.eq_of_beq_eq_true z
  have E : ∀ {a b : Nat}, Nat.ble a b = true → a ≤ b := fun z => Nat.le_of_ble_eq_true z
  rcases h with (h | h | h | h | ⟨h, h'⟩) | ⟨h, h'⟩ | ⟨h, h'⟩
  · have := B h; omega
  · have := B h; omega
  · have := B h; omega
  · have := B h; omega
  · have := E h; have := E h'; omega
  · have := B h
    rcases h' with h' | h' | h' <;> (have := B h'; omega)
  · have := E h; have := E h'; omega
theorem sM_mid {q k : Nat} (h1 : 204 ≤ q ∧ q ≠ 220) (h2 : q < 420) (h3 : isSt q = true → ¬ k = 3) : sM q k = true := by
  have e1 : Nat.blt q 420 = true := blt_of h2
  have e2 : Nat.beq q 201 = false := beqF (by omega)
  have e3 : Nat.beq q 200 = false := beqF (by omega)
  have e6 : Nat.beq q 202 = false := beqF (by omega)
  have e7 : Nat.beq q 203 = false := beqF (by omega)
  have e8 : Nat.beq q 220 = false := beqF (by omega)
  cases h4 : isSt q with
  | false => simp [sM, e1, e2, e3, h4, e6, e7, e8]
  | true =>
    have e5 : Nat.beq k 3 = false := beqF (h3 h4)
    simp [sM, e1, e2, e3, h4, e5, e6, e7, e8]
theorem isSt_lt : ∀ q, q < 268 → isSt q = true → q = 209 ∨ q = 235 := by decide +kernel
theorem sN_sM : ∀ q k, sN q k = true → sM q k = true := fun q k h => by
  have h1 := sN_lt h
  exact sM_mid (by omega) (by omega) fun z => h1.2.2 ((isSt_lt q h1.2.1 z).resolve_left (by omega))
theorem sQ_sM : ∀ q k, sQ q k = true → sM q k = true := fun q k h => sN_sM q k (sQ_sN q k h)
theorem stp_220 : ∀ a ∈ stps, a + 11 ≤ 220 ∨ 220 < a := by decide +kernel
theorem stp_hi : ∀ a ∈ stps, 209 ≤ a ∧ a ≤ 409 := by decide +kernel
/-- one street into another -/
theorem Mt.cpM {I : Nat → Nat → Int32} {a b m : Nat} (ha : a ∈ stps) (hb : b ∈ stps) (h2 : b ≠ 257) (hm : m ≤ 11) (h0 : 0 < m) : Mt I (cpS I a b m) := by
  have ka := stp_hi a ha
  have kb := stp_220 a ha
  refine ⟨fun q hq => cpS_out (by omega), by rw [cpS_out (by omega)], by rw [cpS_out (by omega)], fun h s hs g2 => ?_, cpS_out (by omega), by rw [cpS_out (by omega)], by rw [cpS_out (by omega)]⟩
  by_cases e : s = a
  · subst e
    rw [cpS_in0 h0]
    exact h b hb h2
  · have := stp_apart s hs a ha e
    rw [cpS_out (by omega)]
    exact h s hs g2
theorem Mt.cpA {I : Nat → Nat → Int32} {a b : Nat} (ha : a ∈ stps) (hb : b ∈ stps) (h2 : b ≠ 257) : Mt I (cpS I a b 11) := Mt.cpM ha hb h2 (by omega) (by omega)
theorem Fm.cl {s : Nat → Nat → Bool} {I I' : Nat → Nat → Int32} {a b : Nat} (h : Fm s I I') (h0 : s a 0 = true) (hs : ∀ i k, i < 5 → s (a + 1 + i) k = true) : Fm s I (cpL I' a b) := by
  unfold cpL
  exact (h.cp hs).up h0
theorem Fm_l246 (i k : Nat) (h : i < 5) : sM (246 + 1 + i) k = true := sM_mid (by omega) (by omega) fun z => by
  have := isSt_lt _ (by omega) z
  omega
theorem isSt_l : ∀ i, i < 5 → isSt (279 + 1 + i) = false := by decide +kernel
theorem Fm_l279 (i k : Nat) (h : i < 5) : sM (279 + 1 + i) k = true := sM_mid (by omega) (by omega) fun z => by
  rw [isSt_l i h] at z
  cases z
/-- .. and the tape is used up -/
def Mt0 (I I' : Nat → Nat → Int32) : Prop := ∃ I1, Mt I I1 ∧ Mt (up2 I1 201 1 0) I'
theorem Mt0.mk {I I1 : Nat → Nat → Int32} (h : Mt I I1) : Mt0 I (up2 I1 201 1 0) := ⟨I1, h, Mt.rf⟩
theorem Mt0.tr {I I1 I2 : Nat → Nat → Int32} (h : Mt0 I I1) (h2 : Mt I1 I2) : Mt0 I I2 := by
  obtain ⟨J, h3, h4⟩ := h
  exact ⟨J, h3, h4.tr h2⟩
theorem Mt0.fm {I I1 I2 : Nat → Nat → Int32} (h : Mt0 I I1) (f : Fm sM I1 I2) : Mt0 I I2 := h.tr (Mt.of f)
theorem Mt0.all {I I' : Nat → Nat → Int32} (h : Mt0 I I') : (∀ q, 420 ≤ q → I' q = I q) ∧ I' 201 1 = 0 ∧ I' 200 10 = I 200 10 ∧ (CI I → CI I') ∧ I' 202 = I 202 ∧ I' 203 1 = I 203 1 ∧ I' 220 1 = I 220 1 := by
  obtain ⟨J, h1, h2⟩ := h
  refine ⟨fun q hq => ?_, ?_, ?_, fun z => h2.2.2.2.1 fun a ha g2 => ?_, ?_, ?_, ?_⟩
  · rw [h2.1 q hq, up2_row (by omega), h1.1 q hq]
  · rw [h2.2.1, up2_at]
  · rw [h2.2.2.1, up2_row (by decide), h1.2.2.1]
  · have ka := stp_hi a ha
    rw [up2_row (by omega)]
    exact h1.2.2.2.1 z a ha g2
  · rw [h2.2.2.2.2.1, up2_row (by decide), h1.2.2.2.2.1]
  · rw [h2.2.2.2.2.2.1, up2_row (by decide), h1.2.2.2.2.2.1]
  · rw [h2.2.2.2.2.2.2, up2_row (by decide), h1.2.2.2.2.2.2]
theorem inB_nI {a b : Nat} {x : Int32} (hb : a < 2 ^ 31 ∧ b < 2 ^ 31) (h : inB x (nI a) (nI b) = true) : ∃ m, a ≤ m ∧ m ≤ b ∧ x = nI m := by
  have h := of_decide_eq_true h
  obtain ⟨h1, h2⟩ := h
  rw [Int32.le_iff_toInt_le] at h1 h2
  rw [nI_toInt hb.2] at h2
  rw [nI_toInt hb.1] at h1
  refine ⟨x.toInt.toNat, by omega, by omega, ?_⟩
  rw [← Int32.toInt_inj, nI_toInt (by omega)]
  omega
theorem or_bit : ∀ n, n < 12 → ∀ m, m < 2 ^ n → nI m ||| bitF (nI n) = nI (m + 2 ^ n) := by
  intro n hn m hm
  have e : ∀ n, n < 12 → bitF (nI n) = nI (2 ^ n) := by decide +kernel
  have e2 : m + 2 ^ n = m ||| 2 ^ n := by
    have h := Nat.two_pow_add_eq_or_of_lt hm 1
    rw [Nat.mul_one] at h
    rw [Nat.add_comm, h, Nat.or_comm]
  rw [e n hn, e2]
  refine Int32.toBitVec_inj.mp (BitVec.eq_of_getLsbD_eq fun i hi => ?_)
  rw [Int32.toBitVec_or, BitVec.getLsbD_or]
  show ((BitVec.ofNat 32 m).getLsbD i || (BitVec.ofNat 32 (2 ^ n)).getLsbD i) = (BitVec.ofNat 32 (m ||| 2 ^ n)).getLsbD i
  rw [BitVec.getLsbD_ofNat, BitVec.getLsbD_ofNat, BitVec.getLsbD_ofNat, Nat.testBit_or]
  cases decide (i < 32) <;> simp
theorem bs_nI {n : Nat} {P : Nat → Bool} (hn : n ≤ 12) : ∃ m, m < 2 ^ n ∧ bs n P = nI m := by
  induction n with
  | zero => exact ⟨0, by decide, nI_0.symm⟩
  | succ n ih =>
    obtain ⟨m, hm, e⟩ := ih (by omega)
    unfold bs
    split
    · refine ⟨m + 2 ^ n, by rw [Nat.pow_succ]; omega, ?_⟩
      rw [e, or_bit n (by omega) m hm]
    · exact ⟨m, by rw [Nat.pow_succ]; omega, e⟩
theorem bs_nI12 {n : Nat} {P : Nat → Bool} (hn : n ≤ 12) : ∃ m, m < 4096 ∧ bs n P = nI m := by
  obtain ⟨m, h1, h2⟩ := bs_nI (P := P) hn
  exact ⟨m, Nat.lt_of_lt_of_le h1 (Nat.pow_le_pow_right (by decide) hn), h2⟩
theorem odd_nz {m j : Nat} (hm : m ≤ 6) (hj : j < 2 ^ 31) (h : ¬ nI m < nI j) : ¬ (nI j + 1).toInt64 = 0 := by
  have : j ≤ 6 := by
    have := nI_le_of h hj (by omega)
    omega
  rcases j with _ | _ | _ | _ | _ | _ | _ | j
  all_goals first | decide | omega
theorem q_needNumber {S : aS} {I : Nat → Nat → Int32} {L : Nat → Nat → Int64} {w1 w2 t : Nat} {x a b : Int32} : Sp S m_X11_needNumber 13 1 6 [.int x, .int a, .int b] (hp I L w1 w2 t) (fun v h' => v = none ∧ h' = hp I L w1 w2 t ∧ inB x a b = true) (XR (Fm sQ I) L w1 w2 [1]) := by
  refine Sp_of ok_X11_needNumber rfl rfl ?_
  show AW S m_X11_needNumber 13 _ _ 1 6 0 [some (.int x), some (.int a), some (.int b)] [] (hp I L w1 w2 t)
  refine a_l0 rfl rfl rfl ?_
  refine a_l1 rfl rfl rfl ?_
  refine a_ic_lt rfl (fun c2 => ?_) (fun c2 => ?_)
  · exact a_throw rfl rfl rfl rfl tX11_iae rfl rfl rfl rfl rfl ⟨⟨1, by decide, rfl⟩, _, rfl, Fm.rf⟩
  · refine a_l0 rfl rfl rfl ?_
    refine a_l2 rfl rfl rfl ?_
    refine a_ic_le rfl (fun c7 => ?_) (fun c7 => ?_)
    · exact a_vret rfl rfl ⟨rfl, rfl, decide_eq_true ⟨Int32.not_lt.mp c2, c7⟩⟩
    · exact a_throw rfl rfl rfl rfl tX11_iae rfl rfl rfl rfl rfl ⟨⟨1, by decide, rfl⟩, _, rfl, Fm.rf⟩
theorem sQ_257 (i k : Nat) (hi : i < 9) : sQ (257 + i) k = true := by
  have : ∀ i, i < 9 → sQ (257 + i) 0 = true := by decide
  exact this i hi
/-- the readers' tokens -/
def sT (q _k : Nat) : Bool := (Nat.ble 204 q && Nat.ble q 208) || (Nat.ble 221 q && Nat.ble q 225)
theorem sT_sM : ∀ q k, sT q k = true → sM q k = true := fun q k h => by
  simp only [sT, Bool.or_eq_true, Bool.and_eq_true] at h
  have E : ∀ {a b : Nat}, Nat.ble a b = true → a ≤ b := fun z => Nat.le_of_ble_eq_true z
  rcases h with ⟨h, h'⟩ | ⟨h, h'⟩
  · have := E h; have := E h'
    exact sM_mid (by omega) (by omega) fun z => by have := isSt_lt q (by omega) z; omega
  · have := E h; have := E h'
    exact sM_mid (by omega) (by omega) fun z => by have := isSt_lt q (by omega) z; omega
