section
/-! ===== calls of methods whose end is known; loops ===== -/
def SpE (S : aS) (C : aM) (d : Nat) (args : List Value) (h : aH) (r : Option Value) (h' : aH) : Prop := Sp S C d 0 0 args h (fun v h'' => v = r ∧ h'' = h') (fun _ _ => False)
section B3
variable {S : aS} {C C' : aM} {d d' : Nat} {Q Q' : Option Value → aH → Prop} {X X' : String → aH → Prop} {k1 k2 j1 j2 pc np tgt n : Nat} {w : Int32} {ls ls' : List (Option Value)} {st st' st0 : List Value} {h h' : aH} {ins : Instr} {As : List Value} {v : Value}
theorem a_eV1 {idx : Nat} {q : Nat} (hC : look C pc = some (.invokevirtual idx, np, tgt, w)) (hl : LK C.1.cls idx C') (hM : MOv C' n) (hs : SpE S C' d' (.ref q :: As) h (some v) h') (hn : As.length = n) (h0 : st0 = As.reverse ++ .ref q :: st) (ho : cOk d d' 0 0 k1 k2 st = true) (hq : rcv h q C'.1.cls) (hh : C.2.2.2.2.1 = []) (kk : AW S C d Q X k1 k2 np ls (v :: st) h') : AW S C d Q X k1 k2 pc ls st0 h := by
  refine a_callV hC hl hM hs hn h0 ho hq hh (fun v h' hv => ?_) (fun E h' hx => False.elim hx)
  obtain ⟨rfl, rfl⟩ := hv
  exact kk
theorem a_eV0 {idx : Nat} {q : Nat} (hC : look C pc = some (.invokevirtual idx, np, tgt, w)) (hl : LK C.1.cls idx C') (hM : MOv C' n) (hs : SpE S C' d' (.ref q :: As) h none h') (hn : As.length = n) (h0 : st0 = As.reverse ++ .ref q :: st) (ho : cOk d d' 0 0 k1 k2 st = true) (hq : rcv h q C'.1.cls) (hh : C.2.2.2.2.1 = []) (kk : AW S C d Q X k1 k2 np ls st h') : AW S C d Q X k1 k2 pc ls st0 h := by
  refine a_callV hC hl hM hs hn h0 ho hq hh (fun v h' hv => ?_) (fun E h' hx => False.elim hx)
  obtain ⟨rfl, rfl⟩ := hv
  exact kk
theorem a_eN1 {idx : Nat} {q : Nat} (hC : look C pc = some (.invokevirtual idx, np, tgt, w)) (hl : LKn C.1.cls idx C') (hM : MOv C' n) (hs : SpE S C' d' (.ref q :: As) h (some v) h') (hn : As.length = n) (h0 : st0 = As.reverse ++ .ref q :: st) (ho : cOk d d' 0 0 k1 k2 st = true) (hq : rcv h q C'.1.cls) (hh : C.2.2.2.2.1 = []) (kk : AW S C d Q X k1 k2 np ls (v :: st) h') : AW S C d Q X k1 k2 pc ls st0 h := by
  refine a_callN hC hl hM hs hn h0 ho hq hh (fun v h' hv => ?_) (fun E h' hx => False.elim hx)
  obtain ⟨rfl, rfl⟩ := hv
  exact kk
theorem a_eN0 {idx : Nat} {q : Nat} (hC : look C pc = some (.invokevirtual idx, np, tgt, w)) (hl : LKn C.1.cls idx C') (hM : MOv C' n) (hs : SpE S C' d' (.ref q :: As) h none h') (hn : As.length = n) (h0 : st0 = As.reverse ++ .ref q :: st) (ho : cOk d d' 0 0 k1 k2 st = true) (hq : rcv h q C'.1.cls) (hh : C.2.2.2.2.1 = []) (kk : AW S C d Q X k1 k2 np ls st h') : AW S C d Q X k1 k2 pc ls st0 h := by
  refine a_callN hC hl hM hs hn h0 ho hq hh (fun v h' hv => ?_) (fun E h' hx => False.elim hx)
  obtain ⟨rfl, rfl⟩ := hv
  exact kk
theorem a_eS1 {idx : Nat} (hC : look C pc = some (.invokestatic idx, np, tgt, w)) (hl : LK C.1.cls idx C') (hM : MOs C' n) (hs : SpE S C' d' As h (some v) h') (hn : As.length = n) (h0 : st0 = As.reverse ++ st) (ho : cOk d d' 0 0 k1 k2 st = true) (hh : C.2.2.2.2.1 = []) (kk : AW S C d Q X k1 k2 np ls (v :: st) h') : AW S C d Q X k1 k2 pc ls st0 h := by
  refine a_callS hC hl hM hs hn h0 ho hh (fun v h' hv => ?_) (fun E h' hx => False.elim hx)
  obtain ⟨rfl, rfl⟩ := hv
  exact kk
theorem a_eS0 {idx : Nat} (hC : look C pc = some (.invokestatic idx, np, tgt, w)) (hl : LK C.1.cls idx C') (hM : MOs C' n) (hs : SpE S C' d' As h none h') (hn : As.length = n) (h0 : st0 = As.reverse ++ st) (ho : cOk d d' 0 0 k1 k2 st = true) (hh : C.2.2.2.2.1 = []) (kk : AW S C d Q X k1 k2 np ls st h') : AW S C d Q X k1 k2 pc ls st0 h := by
  refine a_callS hC hl hM hs hn h0 ho hh (fun v h' hv => ?_) (fun E h' hx => False.elim hx)
  obtain ⟨rfl, rfl⟩ := hv
  exact kk
theorem a_eSN1 {idx : Nat} (hC : look C pc = some (.invokestatic idx, np, tgt, w)) (hl : LKn C.1.cls idx C') (hM : MOs C' n) (hs : SpE S C' d' As h (some v) h') (hn : As.length = n) (h0 : st0 = As.reverse ++ st) (ho : cOk d d' 0 0 k1 k2 st = true) (hh : C.2.2.2.2.1 = []) (kk : AW S C d Q X k1 k2 np ls (v :: st) h') : AW S C d Q X k1 k2 pc ls st0 h := by
  refine a_callSN hC hl hM hs hn h0 ho hh (fun v h' hv => ?_) (fun E h' hx => False.elim hx)
  obtain ⟨rfl, rfl⟩ := hv
  exact kk
theorem a_eSN0 {idx : Nat} (hC : look C pc = some (.invokestatic idx, np, tgt, w)) (hl : LKn C.1.cls idx C') (hM : MOs C' n) (hs : SpE S C' d' As h none h') (hn : As.length = n) (h0 : st0 = As.reverse ++ st) (ho : cOk d d' 0 0 k1 k2 st = true) (hh : C.2.2.2.2.1 = []) (kk : AW S C d Q X k1 k2 np ls st h') : AW S C d Q X k1 k2 pc ls st0 h := by
  refine a_callSN hC hl hM hs hn h0 ho hh (fun v h' hv => ?_) (fun E h' hx => False.elim hx)
  obtain ⟨rfl, rfl⟩ := hv
  exact kk
theorem a_eI1 {idx : Nat} {q : Nat} (hC : look C pc = some (.invokespecial idx, np, tgt, w)) (hl : LK C.1.cls idx C') (hM : MOi C' n) (hs : SpE S C' d' (.ref q :: As) h (some v) h') (hn : As.length = n) (h0 : st0 = As.reverse ++ .ref q :: st) (ho : cOk d d' 0 0 k1 k2 st = true) (hh : C.2.2.2.2.1 = []) (kk : AW S C d Q X k1 k2 np ls (v :: st) h') : AW S C d Q X k1 k2 pc ls st0 h := by
  refine a_callI hC hl hM hs hn h0 ho hh (fun v h' hv => ?_) (fun E h' hx => False.elim hx)
  obtain ⟨rfl, rfl⟩ := hv
  exact kk
theorem a_eI0 {idx : Nat} {q : Nat} (hC : look C pc = some (.invokespecial idx, np, tgt, w)) (hl : LK C.1.cls idx C') (hM : MOi C' n) (hs : SpE S C' d' (.ref q :: As) h none h') (hn : As.length = n) (h0 : st0 = As.reverse ++ .ref q :: st) (ho : cOk d d' 0 0 k1 k2 st = true) (hh : C.2.2.2.2.1 = []) (kk : AW S C d Q X k1 k2 np ls st h') : AW S C d Q X k1 k2 pc ls st0 h := by
  refine a_callI hC hl hM hs hn h0 ho hh (fun v h' hv => ?_) (fun E h' hx => False.elim hx)
  obtain ⟨rfl, rfl⟩ := hv
  exact kk
theorem a_eIN1 {idx : Nat} {q : Nat} (hC : look C pc = some (.invokespecial idx, np, tgt, w)) (hl : LKn C.1.cls idx C') (hM : MOi C' n) (hs : SpE S C' d' (.ref q :: As) h (some v) h') (hn : As.length = n) (h0 : st0 = As.reverse ++ .ref q :: st) (ho : cOk d d' 0 0 k1 k2 st = true) (hh : C.2.2.2.2.1 = []) (kk : AW S C d Q X k1 k2 np ls (v :: st) h') : AW S C d Q X k1 k2 pc ls st0 h := by
  refine a_callIN hC hl hM hs hn h0 ho hh (fun v h' hv => ?_) (fun E h' hx => False.elim hx)
  obtain ⟨rfl, rfl⟩ := hv
  exact kk
theorem a_eIN0 {idx : Nat} {q : Nat} (hC : look C pc = some (.invokespecial idx, np, tgt, w)) (hl : LKn C.1.cls idx C') (hM : MOi C' n) (hs : SpE S C' d' (.ref q :: As) h none h') (hn : As.length = n) (h0 : st0 = As.reverse ++ .ref q :: st) (ho : cOk d d' 0 0 k1 k2 st = true) (hh : C.2.2.2.2.1 = []) (kk : AW S C d Q X k1 k2 np ls st h') : AW S C d Q X k1 k2 pc ls st0 h := by
  refine a_callIN hC hl hM hs hn h0 ho hh (fun v h' hv => ?_) (fun E h' hx => False.elim hx)
  obtain ⟨rfl, rfl⟩ := hv
  exact kk
theorem a_eK1 {idx : Nat} {q : Nat} (hC : look C pc = some (.invokevirtual idx, np, tgt, w)) (hl : LK C.1.cls idx C') (hM : MOv C' n) (hs : SpE S C' d' (.ref q :: As) h (some v) h') (hn : As.length = n) (h0 : st0 = As.reverse ++ .ref q :: st) (ho : cOk d d' 0 0 k1 k2 st = true) (hq : (q, C'.1.cls) ∈ S.2.1) (hh : C.2.2.2.2.1 = []) (kk : AW S C d Q X k1 k2 np ls (v :: st) h') : AW S C d Q X k1 k2 pc ls st0 h := by
  refine a_callK hC hl hM hs hn h0 ho hq hh (fun v h' hv => ?_) (fun E h' hx => False.elim hx)
  obtain ⟨rfl, rfl⟩ := hv
  exact kk
theorem a_eK0 {idx : Nat} {q : Nat} (hC : look C pc = some (.invokevirtual idx, np, tgt, w)) (hl : LK C.1.cls idx C') (hM : MOv C' n) (hs : SpE S C' d' (.ref q :: As) h none h') (hn : As.length = n) (h0 : st0 = As.reverse ++ .ref q :: st) (ho : cOk d d' 0 0 k1 k2 st = true) (hq : (q, C'.1.cls) ∈ S.2.1) (hh : C.2.2.2.2.1 = []) (kk : AW S C d Q X k1 k2 np ls st h') : AW S C d Q X k1 k2 pc ls st0 h := by
  refine a_callK hC hl hM hs hn h0 ho hq hh (fun v h' hv => ?_) (fun E h' hx => False.elim hx)
  obtain ⟨rfl, rfl⟩ := hv
  exact kk
/-- a counting loop -/
theorem a_for {n : Nat} (f : Nat → List (Option Value)) (g : Nat → aH) (hn : AW S C d Q X k1 k2 pc (f n) st (g n)) (hs : ∀ j, j < n → AW S C d Q X k1 k2 pc (f (j + 1)) st (g (j + 1)) → AW S C d Q X k1 k2 pc (f j) st (g j)) : AW S C d Q X k1 k2 pc (f 0) st (g 0) := by
  have key : ∀ i, i ≤ n → AW S C d Q X k1 k2 pc (f (n - i)) st (g (n - i)) := by
    intro i
    induction i with
    | zero => intro _; exact hn
    | succ i ih =>
      intro hi
      refine hs (n - (i + 1)) (by omega) ?_
      rw [show n - (i + 1) + 1 = n - i by omega]
      exact ih (by omega)
  have := key n (Nat.le_refl n)
  rw [Nat.sub_self] at this
  exact this
theorem a_eq (e1 : ls = ls') (e2 : h = h') (k : AW S C d Q X k1 k2 pc ls' st h') : AW S C d Q X k1 k2 pc ls st h := by
  rw [e1, e2]
  exact k
theorem SpE_of {args : List Value} {r : Option Value} (hO : okM C = true) (hc : args.all (fun v => v.category == 1) = true) (hn : Nat.ble args.length C.2.2.1 = true)
    (k : AW S C d (fun v h'' => v = r ∧ h'' = h') (fun _ _ => False) 0 0 0 (entL args C.2.2.1) [] h) : SpE S C d args h r h' := Sp_of hO hc hn k
theorem SpE.cast {args : List Value} {r r' : Option Value} {h'' : aH} (k : SpE S C d args h r h') (e1 : r = r') (e2 : h' = h'') : SpE S C d args h r' h'' := by
  rw [← e1, ← e2]
  exact k

/-- it throws, and this is known -/
def SpX (S : aS) (C : aM) (d : Nat) (args : List Value) (h : aH) (E : String) (h' : aH) : Prop := Sp S C d 1 6 args h (fun _ _ => False) (fun E' h'' => E' = E ∧ h'' = h')
theorem SpX_of {args : List Value} {E : String} (hO : okM C = true) (hc : args.all (fun v => v.category == 1) = true) (hn : Nat.ble args.length C.2.2.1 = true)
    (k : AW S C d (fun _ _ => False) (fun E' h'' => E' = E ∧ h'' = h') 1 6 0 (entL args C.2.2.1) [] h) : SpX S C d args h E h' := Sp_of hO hc hn k
theorem a_back (k : AW S C d Q X k1 k2 pc ls' st h') (hs : lsub ls' ls) (e : h = h') : AW S C d Q X k1 k2 pc ls st h := by
  rw [e]
  exact a_less k hs
theorem a_forE {n : Nat} (f : Nat → List (Option Value)) (g : Nat → aH) (e1 : lsub (f 0) ls) (e2 : h = g 0) (hn : AW S C d Q X k1 k2 pc (f n) st (g n)) (hs : ∀ j, j < n → AW S C d Q X k1 k2 pc (f (j + 1)) st (g (j + 1)) → AW S C d Q X k1 k2 pc (f j) st (g j)) : AW S C d Q X k1 k2 pc ls st h := by
  rw [e2]
  exact a_less (a_for f g hn hs) e1
/-- a loop that may be left early: by an invariant of its own -/
theorem a_loop {n : Nat} (f : Nat → List (Option Value)) (g : Nat → aH) (P : Nat → Prop) (e1 : lsub (f 0) ls) (e2 : h = g 0) (h0 : P 0) (hs : ∀ j, j ≤ n → P j → (j < n → P (j + 1) → AW S C d Q X k1 k2 pc (f (j + 1)) st (g (j + 1))) → AW S C d Q X k1 k2 pc (f j) st (g j)) : AW S C d Q X k1 k2 pc ls st h := by
  have key : ∀ i, i ≤ n → P (n - i) → AW S C d Q X k1 k2 pc (f (n - i)) st (g (n - i)) := by
    intro i
    induction i with
    | zero => intro _ hp; exact hs n (Nat.le_refl n) hp (fun z => absurd z (by omega))
    | succ i ih =>
      intro hi hp
      refine hs (n - (i + 1)) (by omega) hp (fun _ hp' => ?_)
      rw [show n - (i + 1) + 1 = n - i by omega] at hp' ⊢
      exact ih (by omega) hp'
  rw [e2]
  have := key n (Nat.le_refl n)
  rw [Nat.sub_self] at this
  exact a_less (this h0) e1
theorem a_xV {idx : Nat} {q : Nat} {E : String} (hC : look C pc = some (.invokevirtual idx, np, tgt, w)) (hl : LK C.1.cls idx C') (hM : MOv C' n) (hs : SpX S C' d' (.ref q :: As) h E h') (hn : As.length = n) (h0 : st0 = As.reverse ++ .ref q :: st) (ho : cOk d d' 1 6 k1 k2 st = true) (hq : rcv h q C'.1.cls) (hh : C.2.2.2.2.1 = []) (hX : X E h') : AW S C d Q X k1 k2 pc ls st0 h := by
  refine a_callV hC hl hM hs hn h0 ho hq hh (fun v h' hv => False.elim hv) (fun E h' hx => ?_)
  obtain ⟨rfl, rfl⟩ := hx
  exact hX
theorem a_xN {idx : Nat} {q : Nat} {E : String} (hC : look C pc = some (.invokevirtual idx, np, tgt, w)) (hl : LKn C.1.cls idx C') (hM : MOv C' n) (hs : SpX S C' d' (.ref q :: As) h E h') (hn : As.length = n) (h0 : st0 = As.reverse ++ .ref q :: st) (ho : cOk d d' 1 6 k1 k2 st = true) (hq : rcv h q C'.1.cls) (hh : C.2.2.2.2.1 = []) (hX : X E h') : AW S C d Q X k1 k2 pc ls st0 h := by
  refine a_callN hC hl hM hs hn h0 ho hq hh (fun v h' hv => False.elim hv) (fun E h' hx => ?_)
  obtain ⟨rfl, rfl⟩ := hx
  exact hX
theorem a_xS {idx : Nat} {E : String} (hC : look C pc = some (.invokestatic idx, np, tgt, w)) (hl : LK C.1.cls idx C') (hM : MOs C' n) (hs : SpX S C' d' As h E h') (hn : As.length = n) (h0 : st0 = As.reverse ++ st) (ho : cOk d d' 1 6 k1 k2 st = true) (hh : C.2.2.2.2.1 = []) (hX : X E h') : AW S C d Q X k1 k2 pc ls st0 h := by
  refine a_callS hC hl hM hs hn h0 ho hh (fun v h' hv => False.elim hv) (fun E h' hx => ?_)
  obtain ⟨rfl, rfl⟩ := hx
  exact hX
theorem a_xSN {idx : Nat} {E : String} (hC : look C pc = some (.invokestatic idx, np, tgt, w)) (hl : LKn C.1.cls idx C') (hM : MOs C' n) (hs : SpX S C' d' As h E h') (hn : As.length = n) (h0 : st0 = As.reverse ++ st) (ho : cOk d d' 1 6 k1 k2 st = true) (hh : C.2.2.2.2.1 = []) (hX : X E h') : AW S C d Q X k1 k2 pc ls st0 h := by
  refine a_callSN hC hl hM hs hn h0 ho hh (fun v h' hv => False.elim hv) (fun E h' hx => ?_)
  obtain ⟨rfl, rfl⟩ := hx
  exact hX
end B3
end
section
/-! ===== where everything lies (printed by program) ===== -/
def KL : List (Nat × Nat) := [(1, 11), (1, 7), (3, 400), (1, 6), (1, 9), (2, 401), (2, 401), (2, 401), (2, 401), (1, 5), (2, 6), (2, 6), (2, 12), (2, 12), (2, 12), (2, 12), (2, 12), (2, 12), (1, 1), (2, 240), (1, 3), (1, 9), (2, 401), (2, 401), (2, 401), (2, 401), (1, 2), (2, 12), (2, 12), (2, 12), (2, 12), (2, 400), (2, 9), (2, 32), (2, 32), (1, 5), (2, 6), (2, 6), (2, 12), (2, 12), (2, 12), (2, 12), (2, 12), (2, 12), (1, 1), (2, 240), (1, 2), (2, 12), (2, 12), (2, 12), (2, 12), (2, 400), (2, 9), (2, 32), (1, 0), (2, 12), (2, 12), (1, 5), (2, 6), (2, 6), (2, 12), (2, 12), (2, 12), (2, 12), (2, 12), (2, 12), (1, 1), (2, 240), (1, 5), (2, 6), (2, 6), (2, 12), (2, 12), (2, 12), (2, 12), (2, 12), (2, 12), (1, 1), (2, 240), (1, 2), (2, 12), (2, 12), (2, 12), (2, 12), (2, 400), (2, 9), (2, 32), (5, 12), (1, 5), (2, 6), (2, 6), (2, 12), (2, 12), (2, 12), (2, 12), (2, 12), (2, 12), (1, 1), (2, 240), (1, 5), (2, 6), (2, 6), (2, 12), (2, 12), (2, 12), (2, 12), (2, 12), (2, 12), (1, 1), (2, 240), (1, 5), (2, 6), (2, 6), (2, 12), (2, 12), (2, 12), (2, 12), (2, 12), (2, 12), (1, 1), (2, 240), (1, 5), (2, 6), (2, 6), (2, 12), (2, 12), (2, 12), (2, 12), (2, 12), (2, 12), (1, 1), (2, 240), (1, 5), (2, 6), (2, 6), (2, 12), (2, 12), (2, 12), (2, 12), (2, 12), (2, 12), (1, 1), (2, 240), (1, 5), (2, 6), (2, 6), (2, 12), (2, 12), (2, 12), (2, 12), (2, 12), (2, 12), (1, 1), (2, 240), (1, 5), (2, 6), (2, 6), (2, 12), (2, 12), (2, 12), (2, 12), (2, 12), (2, 12), (1, 1), (2, 240), (1, 5), (2, 6), (2, 6), (2, 12), (2, 12), (2, 12), (2, 12), (2, 12), (2, 12), (1, 1), (2, 240), (1, 5), (2, 6), (2, 6), (2, 12), (2, 12), (2, 12), (2, 12), (2, 12), (2, 12), (1, 1), (2, 240), (1, 5), (2, 6), (2, 6), (2, 12), (2, 12), (2, 12), (2, 12), (2, 12), (2, 12), (1, 1), (2, 240), (1, 5), (2, 6), (2, 6), (2, 12), (2, 12), (2, 12), (2, 12), (2, 12), (2, 12), (1, 1), (2, 240), (1, 5), (2, 6), (2, 6), (2, 12), (2, 12), (2, 12), (2, 12), (2, 12), (2, 12), (1, 1), (2, 240), (1, 12), (2, 2033), (2, 1184), (2, 1184), (2, 335), (2, 4020), (3, 400), (2, 5), (2, 400), (2, 6), (4, 7), (4, 1)]
theorem beqF {a b : Nat} (h : ¬ a = b) : Nat.beq a b = false := by
  cases h2 : Nat.beq a b with
  | false => rfl
  | true => exact absurd (Nat.eq_of_beq_eq_true h2) h
def nthK : List (Nat × Nat) → Nat → Nat × Nat
  | [], _ => (0, 0)
  | a :: _, 0 => a
  | _ :: r, n + 1 => nthK r n
def K0 (p : Nat) : Nat × Nat := match Nat.ble 200 p with
  | true => nthK KL (p - 200)
  | false => (0, 0)
def RL0 : List (Nat × List Nat) := [(200, [202, 204, 221, 0, 236, 247, 255, 258, 269, 280, 0, 288]), (201, [203]), (203, [205, 0, 210]), (204, [206, 207, 208, 209]), (209, [0, 211, 212, 0, 213, 214, 215, 216, 217, 218, 0, 0, 0, 0, 0, 0, 0, 219]), (218, [0, 0, 220]), (220, [222, 0, 227, 235]), (221, [223, 224, 225, 226]), (226, [0, 0, 228, 229, 230, 231, 232, 233, 234]), (235, [0, 237, 238, 0, 239, 240, 241, 242, 243, 244, 0, 0, 0, 0, 0, 0, 0, 245]), (244, [0, 0, 246]), (246, [0, 0, 248, 249, 250, 251, 252, 253, 254]), (254, [256, 257]), (257, [0, 259, 260, 0, 261, 262, 263, 264, 265, 266, 0, 0, 0, 0, 0, 0, 0, 267]), (266, [0, 0, 268]), (268, [0, 270, 271, 0, 272, 273, 274, 275, 276, 277, 0, 0, 0, 0, 0, 0, 0, 278]), (277, [0, 0, 279]), (279, [0, 0, 281, 282, 283, 284, 285, 286, 287]), (287, [289, 300, 311, 322, 333, 344, 355, 366, 377, 388, 399, 410]), (288, [0, 290, 291, 0, 292, 293, 294, 295, 296, 297, 0, 0, 0, 0, 0, 0, 0, 298]), (297, [0, 0, 299]), (299, [0, 301, 302, 0, 303, 304, 305, 306, 307, 308, 0, 0, 0, 0, 0, 0, 0, 309]), (308, [0, 0, 310]), (310, [0, 312, 313, 0, 314, 315, 316, 317, 318, 319, 0, 0, 0, 0, 0, 0, 0, 320]), (319, [0, 0, 321]), (321, [0, 323, 324, 0, 325, 326, 327, 328, 329, 330, 0, 0, 0, 0, 0, 0, 0, 331]), (330, [0, 0, 332]), (332, [0, 334, 335, 0, 336, 337, 338, 339, 340, 341, 0, 0, 0, 0, 0, 0, 0, 342]), (341, [0, 0, 343]), (343, [0, 345, 346, 0, 347, 348, 349, 350, 351, 352, 0, 0, 0, 0, 0, 0, 0, 353]), (352, [0, 0, 354]), (354, [0, 356, 357, 0, 358, 359, 360, 361, 362, 363, 0, 0, 0, 0, 0, 0, 0, 364]), (363, [0, 0, 365]), (365, [0, 367, 368, 0, 369, 370, 371, 372, 373, 374, 0, 0, 0, 0, 0, 0, 0, 375]), (374, [0, 0, 376]), (376, [0, 378, 379, 0, 380, 381, 382, 383, 384, 385, 0, 0, 0, 0, 0, 0, 0, 386]), (385, [0, 0, 387]), (387, [0, 389, 390, 0, 391, 392, 393, 394, 395, 396, 0, 0, 0, 0, 0, 0, 0, 397]), (396, [0, 0, 398]), (398, [0, 400, 401, 0, 402, 403, 404, 405, 406, 407, 0, 0, 0, 0, 0, 0, 0, 408]), (407, [0, 0, 409]), (409, [0, 411, 412, 0, 413, 414, 415, 416, 417, 418, 0, 0, 0, 0, 0, 0, 0, 419]), (418, [0, 0, 420]), (420, [0, 422, 423, 424, 425, 426, 0, 0, 427, 0, 0, 0, 0, 0, 0, 428, 0, 429, 430, 431])]
def nthN : List Nat → Nat → Nat
  | [], _ => 0
  | a :: _, 0 => a
  | _ :: r, n + 1 => nthN r n
def rcIn (p k : Nat) : List (Nat × List Nat) → Nat
  | [] => 0
  | e :: r => match Nat.beq e.1 p with
    | true => nthN e.2 k
    | false => rcIn p k r
def Rc (p k : Nat) : Nat := rcIn p k RL0
/-- the references: all fixed but the two words at hand -/
def Rw (w1 w2 : Nat) : Nat → Nat → Nat := fun p k => match Nat.beq k 9 with
  | true => match Nat.beq p 204 with
    | true => w1
    | false => match Nat.beq p 221 with
      | true => w2
      | false => Rc p k
  | false => Rc p k
theorem Rw_1 {w1 w2 x : Nat} : up2 (Rw w1 w2) 204 9 x = Rw x w2 := by
  funext p k
  by_cases hp : p = 204
  · subst hp
    by_cases hk : k = 9
    · subst hk
      simp [up2, Rw]
    · have : Nat.beq k 9 = false := beqF hk
      simp [up2, hk, Rw, this]
  · rw [up2_row hp]
    have : Nat.beq p 204 = false := beqF hp
    simp [Rw, this]
theorem Rw_2 {w1 w2 x : Nat} : up2 (Rw w1 w2) 221 9 x = Rw w1 x := by
  funext p k
  by_cases hp : p = 221
  · subst hp
    by_cases hk : k = 9
    · subst hk
      simp [up2, Rw]
    · have : Nat.beq k 9 = false := beqF hk
      simp [up2, hk, Rw, this]
  · rw [up2_row hp]
    have : Nat.beq p 221 = false := beqF hp
    simp [Rw, this]
abbrev hp (I : Nat → Nat → Int32) (L : Nat → Nat → Int64) (w1 w2 t : Nat) : aH := (K0, I, L, Rw w1 w2, t)
def stps : List Nat := [209, 235, 257, 268, 288, 299, 310, 321, 332, 343, 354, 365, 376, 387, 398, 409]
def lwps : List Nat := [226, 246, 279]
abbrev stp (a : Nat) : Prop := a ∈ stps
abbrev lwp (a : Nat) : Prop := a ∈ lwps
def skind (j : Nat) : Nat × Nat := nthK [(1, 5), (2, 6), (2, 6), (2, 12), (2, 12), (2, 12), (2, 12), (2, 12), (2, 12), (1, 1), (2, 240)] j
def lkind (j : Nat) : Nat × Nat := nthK [(1, 2), (2, 12), (2, 12), (2, 12), (2, 12), (2, 400), (2, 9), (2, 32)] j
theorem kS_all : ∀ a ∈ stps, ∀ j, j < 11 → K0 (a + j) = skind j := by decide +kernel
theorem kL_all : ∀ a ∈ lwps, ∀ j, j < 8 → K0 (a + j) = lkind j := by decide +kernel
theorem rS_all : ∀ a ∈ stps, Rc a 1 = a + 2 ∧ Rc a 2 = a + 3 ∧ Rc a 4 = a + 4 ∧ Rc a 5 = a + 5 ∧ Rc a 6 = a + 6 ∧ Rc a 7 = a + 7 ∧ Rc a 8 = a + 8 ∧ Rc a 9 = a + 9 ∧ Rc a 17 = a + 10 ∧ Rc (a + 9) 2 = a + 11 ∧ Nat.beq a 204 = false ∧ Nat.beq a 221 = false ∧ Nat.beq (a + 9) 204 = false ∧ Nat.beq (a + 9) 221 = false := by decide +kernel
theorem rL_all : ∀ a ∈ lwps, Rc a 2 = a + 2 ∧ Rc a 3 = a + 3 ∧ Rc a 4 = a + 4 ∧ Rc a 5 = a + 5 ∧ Rc a 6 = a + 6 ∧ Rc a 7 = a + 7 ∧ Rc a 8 = a + 8 := by decide +kernel
theorem stp_200 : ∀ a ∈ stps, 200 ≤ a ∧ a < 432 := by decide +kernel
theorem kS0 {a : Nat} (h : stp a) : K0 a = (1, 5) := kS_all a h 0 (by decide)
theorem kS1 {a : Nat} (h : stp a) : K0 (a + 1) = (2, 6) := kS_all a h 1 (by decide)
theorem kS2 {a : Nat} (h : stp a) : K0 (a + 2) = (2, 6) := kS_all a h 2 (by decide)
theorem kS3 {a : Nat} (h : stp a) : K0 (a + 3) = (2, 12) := kS_all a h 3 (by decide)
theorem kS4 {a : Nat} (h : stp a) : K0 (a + 4) = (2, 12) := kS_all a h 4 (by decide)
theorem kS5 {a : Nat} (h : stp a) : K0 (a + 5) = (2, 12) := kS_all a h 5 (by decide)
theorem kS6 {a : Nat} (h : stp a) : K0 (a + 6) = (2, 12) := kS_all a h 6 (by decide)
theorem kS7 {a : Nat} (h : stp a) : K0 (a + 7) = (2, 12) := kS_all a h 7 (by decide)
theorem kS8 {a : Nat} (h : stp a) : K0 (a + 8) = (2, 12) := kS_all a h 8 (by decide)
theorem kS9 {a : Nat} (h : stp a) : K0 (a + 9) = (1, 1) := kS_all a h 9 (by decide)
theorem kS10 {a : Nat} (h : stp a) : K0 (a + 10) = (2, 240) := kS_all a h 10 (by decide)
theorem kW0 {a : Nat} (h : lwp a) : K0 a = (1, 2) := kL_all a h 0 (by decide)
theorem kW1 {a : Nat} (h : lwp a) : K0 (a + 1) = (2, 12) := kL_all a h 1 (by decide)
theorem kW2 {a : Nat} (h : lwp a) : K0 (a + 2) = (2, 12) := kL_all a h 2 (by decide)
theorem kW3 {a : Nat} (h : lwp a) : K0 (a + 3) = (2, 12) := kL_all a h 3 (by decide)
theorem kW4 {a : Nat} (h : lwp a) : K0 (a + 4) = (2, 12) := kL_all a h 4 (by decide)
theorem kW5 {a : Nat} (h : lwp a) : K0 (a + 5) = (2, 400) := kL_all a h 5 (by decide)
theorem kW6 {a : Nat} (h : lwp a) : K0 (a + 6) = (2, 9) := kL_all a h 6 (by decide)
theorem kW7 {a : Nat} (h : lwp a) : K0 (a + 7) = (2, 32) := kL_all a h 7 (by decide)
theorem rS1 {a w1 w2 : Nat} (h : stp a) : Rw w1 w2 a 1 = (a + 1) + 1 := (rS_all a h).1
theorem rS2 {a w1 w2 : Nat} (h : stp a) : Rw w1 w2 a 2 = (a + 2) + 1 := (rS_all a h).2.1
theorem rS4 {a w1 w2 : Nat} (h : stp a) : Rw w1 w2 a 4 = (a + 3) + 1 := (rS_all a h).2.2.1
theorem rS5 {a w1 w2 : Nat} (h : stp a) : Rw w1 w2 a 5 = (a + 4) + 1 := (rS_all a h).2.2.2.1
theorem rS6 {a w1 w2 : Nat} (h : stp a) : Rw w1 w2 a 6 = (a + 5) + 1 := (rS_all a h).2.2.2.2.1
theorem rS7 {a w1 w2 : Nat} (h : stp a) : Rw w1 w2 a 7 = (a + 6) + 1 := (rS_all a h).2.2.2.2.2.1
theorem rS8 {a w1 w2 : Nat} (h : stp a) : Rw w1 w2 a 8 = (a + 7) + 1 := (rS_all a h).2.2.2.2.2.2.1
theorem rS9 {a w1 w2 : Nat} (h : stp a) : Rw w1 w2 a 9 = (a + 8) + 1 := by
  obtain ⟨-, -, -, -, -, -, -, h8, -, -, e1, e2, -⟩ := rS_all a h
  simp [Rw, e1, e2, h8]
theorem rS17 {a w1 w2 : Nat} (h : stp a) : Rw w1 w2 a 17 = (a + 9) + 1 := (rS_all a h).2.2.2.2.2.2.2.2.1
theorem rS29 {a w1 w2 : Nat} (h : stp a) : Rw w1 w2 (a + 9) 2 = (a + 10) + 1 := (rS_all a h).2.2.2.2.2.2.2.2.2.1
theorem rW2 {a w1 w2 : Nat} (h : lwp a) : Rw w1 w2 a 2 = (a + 1) + 1 := (rL_all a h).1
theorem rW3 {a w1 w2 : Nat} (h : lwp a) : Rw w1 w2 a 3 = (a + 2) + 1 := (rL_all a h).2.1
theorem rW4 {a w1 w2 : Nat} (h : lwp a) : Rw w1 w2 a 4 = (a + 3) + 1 := (rL_all a h).2.2.1
theorem rW5 {a w1 w2 : Nat} (h : lwp a) : Rw w1 w2 a 5 = (a + 4) + 1 := (rL_all a h).2.2.2.1
theorem rW6 {a w1 w2 : Nat} (h : lwp a) : Rw w1 w2 a 6 = (a + 5) + 1 := (rL_all a h).2.2.2.2.1
theorem rW7 {a w1 w2 : Nat} (h : lwp a) : Rw w1 w2 a 7 = (a + 6) + 1 := (rL_all a h).2.2.2.2.2.1
theorem rW8 {a w1 w2 : Nat} (h : lwp a) : Rw w1 w2 a 8 = (a + 7) + 1 := (rL_all a h).2.2.2.2.2.2
end
section
/-! ===== words of the library ===== -/
theorem mj_min : mOk Lib.Math.min.name Lib.Math.min.code 2 := ⟨(inC3 (i := 114) rfl rfl), (inC1 (i := 12) rfl rfl), (inC3 (i := 115) rfl rfl)⟩
theorem mj_max : mOk Lib.Math.max.name Lib.Math.max.code 2 := ⟨(inC2 (i := 207) rfl rfl), (inC1 (i := 12) rfl rfl), (inC2 (i := 208) rfl rfl)⟩
theorem mj_abs : mOk Lib.Math.abs.name Lib.Math.abs.code 1 := ⟨(inC8 (i := 127) rfl rfl), (inC1 (i := 12) rfl rfl), (inC8 (i := 128) rfl rfl)⟩
theorem oi_1 : inT (.instanceMethod Lib.objectInit) := (inC1 (i := 36) rfl rfl)
theorem oi_2 : inT (.code Lib.objectInit ⟨#[0xb1]⟩ 1 none) := (inC1 (i := 37) rfl rfl)
theorem ac_1 : inT (.native arraycopyName) ∧ inT (.static arraycopyName) ∧ inT (.initialized "java/lang/System") := ⟨(inC3 (i := 118) rfl rfl), (inC3 (i := 117) rfl rfl), (inC1 (i := 13) rfl rfl)⟩
theorem kJ6_265 : inT (.constant RJ6 265 1431655765) := (inC3 (i := 1) rfl rfl)
theorem kJ6_266 : inT (.constant RJ6 266 858993459) := (inC3 (i := 2) rfl rfl)
theorem kJ6_267 : inT (.constant RJ6 267 252645135) := (inC3 (i := 3) rfl rfl)
theorem kX5_148 : inT (.constant RX5 148 1103515245) := (inC3 (i := 131) rfl rfl)
theorem kX0_113 : inT (.constantLong RX0 113 10000) := (inC6 (i := 182) rfl rfl)
theorem kX12_77 : inT (.constant RX12 77 1103515245) := (inC9 (i := 21) rfl rfl)
theorem kX12_401 : inT (.constant RX12 401 1000000) := (inC9 (i := 65) rfl rfl)
theorem kX12_454 : inT (.constantLong RX12 454 100) := (inC9 (i := 233) rfl rfl)
theorem kX12_456 : inT (.constantLong RX12 456 10000) := (inC9 (i := 234) rfl rfl)
theorem ar_int : inT (.arrayClass .int) := (inC1 (i := 107) rfl rfl)
theorem ar_byte : inT (.arrayClass .byte) := (inC1 (i := 53) rfl rfl)
theorem ar_long : inT (.arrayClass .long) := (inC7 (i := 96) rfl rfl)
theorem bigTbl : lw_tbl.length < 100000 := by decide +kernel
theorem nX11_7 : LN RX11 7 7 2 := ⟨_, rfl, aok_7, rfl, (inC1 (i := 38) rfl rfl), (inC1 (i := 39) rfl rfl), (inC1 (i := 2) rfl rfl), by decide⟩
theorem nX11_16 : LN RX11 16 6 3 := ⟨_, rfl, aok_6, rfl, (inC1 (i := 54) rfl rfl), (inC1 (i := 55) rfl rfl), (inC1 (i := 4) rfl rfl), by decide⟩
theorem nX11_23 : LN RX11 23 3 6 := ⟨_, rfl, aok_3, rfl, (inC2 (i := 2) rfl rfl), (inC2 (i := 3) rfl rfl), (inC1 (i := 8) rfl rfl), by decide⟩
theorem nX11_34 : LN RX11 34 5 18 := ⟨_, rfl, aok_5, rfl, (inC2 (i := 59) rfl rfl), (inC1 (i := 109) rfl rfl), (inC1 (i := 6) rfl rfl), by decide⟩
theorem nX11_41 : LN RX11 41 2 9 := ⟨_, rfl, aok_2, rfl, (inC2 (i := 61) rfl rfl), (inC2 (i := 9) rfl rfl), (inC1 (i := 9) rfl rfl), by decide⟩
theorem nX11_48 : LN RX11 48 0 2 := ⟨_, rfl, aok_0, rfl, (inC2 (i := 63) rfl rfl), (inC2 (i := 64) rfl rfl), (inC1 (i := 10) rfl rfl), by decide⟩
/-- the words of every exception, by their places -/
theorem thr_all : ∀ w ∈ Bundle.throwableAtoms, vx_no w = true → inX w := List.forall_mem_cons.mpr ⟨fun _ => ⟨inD1 (i := 20) rfl, rfl⟩, List.forall_mem_cons.mpr ⟨fun _ => ⟨inD5 (i := 12) rfl, rfl⟩, List.forall_mem_cons.mpr ⟨fun _ => ⟨inD5 (i := 21) rfl, rfl⟩, List.forall_mem_cons.mpr ⟨fun _ => ⟨inD5 (i := 27) rfl, rfl⟩, List.forall_mem_cons.mpr ⟨fun _ => ⟨inD5 (i := 30) rfl, rfl⟩, List.forall_mem_cons.mpr ⟨fun _ => ⟨inD5 (i := 32) rfl, rfl⟩, List.forall_mem_cons.mpr ⟨fun _ => ⟨inD5 (i := 13) rfl, rfl⟩, List.forall_mem_cons.mpr ⟨fun _ => ⟨inD5 (i := 14) rfl, rfl⟩, List.forall_mem_cons.mpr ⟨fun _ => ⟨inD1 (i := 36) rfl, rfl⟩, List.forall_mem_cons.mpr ⟨fun _ => ⟨inD1 (i := 37) rfl, rfl⟩, List.forall_mem_cons.mpr ⟨fun _ => ⟨inD5 (i := 15) rfl, rfl⟩, List.forall_mem_cons.mpr ⟨fun _ => ⟨inD5 (i := 20) rfl, rfl⟩, List.forall_mem_cons.mpr ⟨fun _ => ⟨inD5 (i := 28) rfl, rfl⟩, List.forall_mem_cons.mpr ⟨fun _ => ⟨inD5 (i := 44) rfl, rfl⟩, List.forall_mem_cons.mpr ⟨fun _ => ⟨inD5 (i := 2) rfl, rfl⟩, List.forall_mem_cons.mpr ⟨fun _ => ⟨inD5 (i := 45) rfl, rfl⟩, List.forall_mem_cons.mpr ⟨fun _ => ⟨inD5 (i := 4) rfl, rfl⟩, List.forall_mem_cons.mpr ⟨fun _ => ⟨inD5 (i := 46) rfl, rfl⟩, List.forall_mem_cons.mpr ⟨fun _ => ⟨inD5 (i := 6) rfl, rfl⟩, List.forall_mem_cons.mpr ⟨fun _ => ⟨inD5 (i := 16) rfl, rfl⟩, List.forall_mem_cons.mpr ⟨fun q => absurd q (by decide +kernel), List.forall_mem_cons.mpr ⟨fun _ => ⟨inD5 (i := 18) rfl, rfl⟩, List.forall_mem_cons.mpr ⟨fun q => absurd q (by decide +kernel), List.forall_mem_cons.mpr ⟨fun _ => ⟨inD5 (i := 8) rfl, rfl⟩, fun w hw => absurd hw List.not_mem_nil⟩⟩⟩⟩⟩⟩⟩⟩⟩⟩⟩⟩⟩⟩⟩⟩⟩⟩⟩⟩⟩⟩⟩⟩
theorem at0_of {own X : String} {ic : Nat} {names : List String} (h : ∀ w ∈ (Bundle.ownAtoms0 own ic X names).drop Bundle.throwableAtoms.length, vx_no w = true → inX w) : ∀ w ∈ vx_at0 own ic X names, inX w := by
  intro w hw
  obtain ⟨hw, hn⟩ := List.mem_filter.mp (show w ∈ (Bundle.ownAtoms0 own ic X names).filter vx_no from hw)
  have e : Bundle.ownAtoms0 own ic X names = Bundle.throwableAtoms ++ (Bundle.ownAtoms0 own ic X names).drop Bundle.throwableAtoms.length := by
    unfold Bundle.ownAtoms0
    rw [List.append_assoc, List.drop_left]
  rw [e] at hw
  rcases List.mem_append.mp hw with h1 | h1
  · exact thr_all w h1 hn
  · exact h w h1 hn
theorem tX11_iae : LT RX11 86 88 "java/lang/IllegalArgumentException" ["java/lang/RuntimeException", "java/lang/Exception"] := ⟨by decide +kernel, by decide +kernel, (inC4 (i := 230) rfl rfl), (inC1 (i := 23) rfl rfl), at0_of (List.forall_mem_cons.mpr ⟨fun _ => ⟨inD5 (i := 34) rfl, rfl⟩, List.forall_mem_cons.mpr ⟨fun _ => ⟨inD5 (i := 35) rfl, rfl⟩, List.forall_mem_cons.mpr ⟨fun _ => ⟨inD5 (i := 36) rfl, rfl⟩, List.forall_mem_cons.mpr ⟨fun _ => ⟨inD5 (i := 37) rfl, rfl⟩, List.forall_mem_cons.mpr ⟨fun _ => ⟨inD4 (i := 233) rfl, rfl⟩, List.forall_mem_cons.mpr ⟨fun _ => ⟨inD5 (i := 37) rfl, rfl⟩, List.forall_mem_cons.mpr ⟨fun _ => ⟨inD5 (i := 38) rfl, rfl⟩, List.forall_mem_cons.mpr ⟨fun _ => ⟨inD5 (i := 39) rfl, rfl⟩, List.forall_mem_cons.mpr ⟨fun _ => ⟨inD5 (i := 40) rfl, rfl⟩, List.forall_mem_cons.mpr ⟨fun _ => ⟨inD4 (i := 235) rfl, rfl⟩, List.forall_mem_cons.mpr ⟨fun _ => ⟨inD5 (i := 40) rfl, rfl⟩, List.forall_mem_cons.mpr ⟨fun _ => ⟨inD5 (i := 41) rfl, rfl⟩, List.forall_mem_cons.mpr ⟨fun _ => ⟨inD5 (i := 42) rfl, rfl⟩, List.forall_mem_cons.mpr ⟨fun _ => ⟨inD5 (i := 13) rfl, rfl⟩, List.forall_mem_cons.mpr ⟨fun _ => ⟨inD4 (i := 237) rfl, rfl⟩, List.forall_mem_cons.mpr ⟨fun _ => ⟨inD5 (i := 33) rfl, rfl⟩, List.forall_mem_cons.mpr ⟨fun _ => ⟨inD4 (i := 231) rfl, rfl⟩, List.forall_mem_cons.mpr ⟨fun _ => ⟨inD4 (i := 232) rfl, rfl⟩, List.forall_mem_cons.mpr ⟨fun _ => ⟨inD4 (i := 239) rfl, rfl⟩, List.forall_mem_cons.mpr ⟨fun _ => ⟨inD5 (i := 0) rfl, rfl⟩, List.forall_mem_cons.mpr ⟨fun _ => ⟨inD5 (i := 1) rfl, rfl⟩, List.forall_mem_cons.mpr ⟨fun _ => ⟨inD5 (i := 3) rfl, rfl⟩, List.forall_mem_cons.mpr ⟨fun _ => ⟨inD5 (i := 5) rfl, rfl⟩, List.forall_mem_cons.mpr ⟨fun _ => ⟨inD5 (i := 7) rfl, rfl⟩, List.forall_mem_cons.mpr ⟨fun q => absurd q (by decide +kernel), List.forall_mem_cons.mpr ⟨fun q => absurd q (by decide +kernel), List.forall_mem_cons.mpr ⟨fun _ => ⟨inD5 (i := 11) rfl, rfl⟩, List.forall_mem_cons.mpr ⟨fun _ => ⟨inD5 (i := 10) rfl, rfl⟩, List.forall_mem_cons.mpr ⟨fun _ => ⟨inD5 (i := 9) rfl, rfl⟩, fun w hw => absurd hw List.not_mem_nil⟩⟩⟩⟩⟩⟩⟩⟩⟩⟩⟩⟩⟩⟩⟩⟩⟩⟩⟩⟩⟩⟩⟩⟩⟩⟩⟩⟩⟩), by decide⟩
theorem tX11_uoe : LT RX11 92 94 "java/lang/UnsupportedOperationException" ["java/lang/RuntimeException", "java/lang/Exception"] := ⟨by decide +kernel, by decide +kernel, (inC5 (i := 55) rfl rfl), (inC1 (i := 24) rfl rfl), at0_of (List.forall_mem_cons.mpr ⟨fun _ => ⟨inD5 (i := 65) rfl, rfl⟩, List.forall_mem_cons.mpr ⟨fun _ => ⟨inD5 (i := 66) rfl, rfl⟩, List.forall_mem_cons.mpr ⟨fun _ => ⟨inD5 (i := 67) rfl, rfl⟩, List.forall_mem_cons.mpr ⟨fun _ => ⟨inD5 (i := 37) rfl, rfl⟩, List.forall_mem_cons.mpr ⟨fun _ => ⟨inD4 (i := 233) rfl, rfl⟩, List.forall_mem_cons.mpr ⟨fun _ => ⟨inD5 (i := 37) rfl, rfl⟩, List.forall_mem_cons.mpr ⟨fun _ => ⟨inD5 (i := 38) rfl, rfl⟩, List.forall_mem_cons.mpr ⟨fun _ => ⟨inD5 (i := 39) rfl, rfl⟩, List.forall_mem_cons.mpr ⟨fun _ => ⟨inD5 (i := 40) rfl, rfl⟩, List.forall_mem_cons.mpr ⟨fun _ => ⟨inD4 (i := 235) rfl, rfl⟩, List.forall_mem_cons.mpr ⟨fun _ => ⟨inD5 (i := 40) rfl, rfl⟩, List.forall_mem_cons.mpr ⟨fun _ => ⟨inD5 (i := 41) rfl, rfl⟩, List.forall_mem_cons.mpr ⟨fun _ => ⟨inD5 (i := 42) rfl, rfl⟩, List.forall_mem_cons.mpr ⟨fun _ => ⟨inD5 (i := 13) rfl, rfl⟩, List.forall_mem_cons.mpr ⟨fun _ => ⟨inD4 (i := 237) rfl, rfl⟩, List.forall_mem_cons.mpr ⟨fun _ => ⟨inD5 (i := 64) rfl, rfl⟩, List.forall_mem_cons.mpr ⟨fun _ => ⟨inD5 (i := 56) rfl, rfl⟩, List.forall_mem_cons.mpr ⟨fun _ => ⟨inD5 (i := 57) rfl, rfl⟩, List.forall_mem_cons.mpr ⟨fun _ => ⟨inD5 (i := 58) rfl, rfl⟩, List.forall_mem_cons.mpr ⟨fun _ => ⟨inD5 (i := 25) rfl, rfl⟩, List.forall_mem_cons.mpr ⟨fun _ => ⟨inD5 (i := 59) rfl, rfl⟩, List.forall_mem_cons.mpr ⟨fun _ => ⟨inD5 (i := 60) rfl, rfl⟩, List.forall_mem_cons.mpr ⟨fun _ => ⟨inD5 (i := 61) rfl, rfl⟩, List.forall_mem_cons.mpr ⟨fun _ => ⟨inD5 (i := 62) rfl, rfl⟩, List.forall_mem_cons.mpr ⟨fun q => absurd q (by decide +kernel), List.forall_mem_cons.mpr ⟨fun q => absurd q (by decide +kernel), List.forall_mem_cons.mpr ⟨fun _ => ⟨inD5 (i := 11) rfl, rfl⟩, List.forall_mem_cons.mpr ⟨fun _ => ⟨inD5 (i := 10) rfl, rfl⟩, List.forall_mem_cons.mpr ⟨fun _ => ⟨inD5 (i := 63) rfl, rfl⟩, fun w hw => absurd hw List.not_mem_nil⟩⟩⟩⟩⟩⟩⟩⟩⟩⟩⟩⟩⟩⟩⟩⟩⟩⟩⟩⟩⟩⟩⟩⟩⟩⟩⟩⟩⟩), by decide⟩
theorem tX11_nsee : LT RX11 138 140 "java/util/NoSuchElementException" ["java/lang/RuntimeException", "java/lang/Exception"] := ⟨by decide +kernel, by decide +kernel, (inC5 (i := 120) rfl rfl), (inC1 (i := 26) rfl rfl), at0_of (List.forall_mem_cons.mpr ⟨fun _ => ⟨inD5 (i := 130) rfl, rfl⟩, List.forall_mem_cons.mpr ⟨fun _ => ⟨inD5 (i := 131) rfl, rfl⟩, List.forall_mem_cons.mpr ⟨fun _ => ⟨inD5 (i := 132) rfl, rfl⟩, List.forall_mem_cons.mpr ⟨fun _ => ⟨inD5 (i := 37) rfl, rfl⟩, List.forall_mem_cons.mpr ⟨fun _ => ⟨inD4 (i := 233) rfl, rfl⟩, List.forall_mem_cons.mpr ⟨fun _ => ⟨inD5 (i := 37) rfl, rfl⟩, List.forall_mem_cons.mpr ⟨fun _ => ⟨inD5 (i := 38) rfl, rfl⟩, List.forall_mem_cons.mpr ⟨fun _ => ⟨inD5 (i := 39) rfl, rfl⟩, List.forall_mem_cons.mpr ⟨fun _ => ⟨inD5 (i := 40) rfl, rfl⟩, List.forall_mem_cons.mpr ⟨fun _ => ⟨inD4 (i := 235) rfl, rfl⟩, List.forall_mem_cons.mpr ⟨fun _ => ⟨inD5 (i := 40) rfl, rfl⟩, List.forall_mem_cons.mpr ⟨fun _ => ⟨inD5 (i := 41) rfl, rfl⟩, List.forall_mem_cons.mpr ⟨fun _ => ⟨inD5 (i := 42) rfl, rfl⟩, List.forall_mem_cons.mpr ⟨fun _ => ⟨inD5 (i := 13) rfl, rfl⟩, List.forall_mem_cons.mpr ⟨fun _ => ⟨inD4 (i := 237) rfl, rfl⟩, List.forall_mem_cons.mpr ⟨fun _ => ⟨inD5 (i := 129) rfl, rfl⟩, List.forall_mem_cons.mpr ⟨fun _ => ⟨inD5 (i := 121) rfl, rfl⟩, List.forall_mem_cons.mpr ⟨fun _ => ⟨inD5 (i := 122) rfl, rfl⟩, List.forall_mem_cons.mpr ⟨fun _ => ⟨inD5 (i := 123) rfl, rfl⟩, List.forall_mem_cons.mpr ⟨fun _ => ⟨inD5 (i := 26) rfl, rfl⟩, List.forall_mem_cons.mpr ⟨fun _ => ⟨inD5 (i := 124) rfl, rfl⟩, List.forall_mem_cons.mpr ⟨fun _ => ⟨inD5 (i := 125) rfl, rfl⟩, List.forall_mem_cons.mpr ⟨fun _ => ⟨inD5 (i := 126) rfl, rfl⟩, List.forall_mem_cons.mpr ⟨fun _ => ⟨inD5 (i := 127) rfl, rfl⟩, List.forall_mem_cons.mpr ⟨fun q => absurd q (by decide +kernel), List.forall_mem_cons.mpr ⟨fun q => absurd q (by decide +kernel), List.forall_mem_cons.mpr ⟨fun _ => ⟨inD5 (i := 11) rfl, rfl⟩, List.forall_mem_cons.mpr ⟨fun _ => ⟨inD5 (i := 10) rfl, rfl⟩, List.forall_mem_cons.mpr ⟨fun _ => ⟨inD5 (i := 128) rfl, rfl⟩, fun w hw => absurd hw List.not_mem_nil⟩⟩⟩⟩⟩⟩⟩⟩⟩⟩⟩⟩⟩⟩⟩⟩⟩⟩⟩⟩⟩⟩⟩⟩⟩⟩⟩⟩⟩), by decide⟩
theorem tX11_ise : LT RX11 227 229 "java/lang/IllegalStateException" ["java/lang/RuntimeException", "java/lang/Exception"] := ⟨by decide +kernel, by decide +kernel, (inC5 (i := 159) rfl rfl), (inC1 (i := 28) rfl rfl), at0_of (List.forall_mem_cons.mpr ⟨fun _ => ⟨inD5 (i := 169) rfl, rfl⟩, List.forall_mem_cons.mpr ⟨fun _ => ⟨inD5 (i := 170) rfl, rfl⟩, List.forall_mem_cons.mpr ⟨fun _ => ⟨inD5 (i := 171) rfl, rfl⟩, List.forall_mem_cons.mpr ⟨fun _ => ⟨inD5 (i := 37) rfl, rfl⟩, List.forall_mem_cons.mpr ⟨fun _ => ⟨inD4 (i := 233) rfl, rfl⟩, List.forall_mem_cons.mpr ⟨fun _ => ⟨inD5 (i := 37) rfl, rfl⟩, List.forall_mem_cons.mpr ⟨fun _ => ⟨inD5 (i := 38) rfl, rfl⟩, List.forall_mem_cons.mpr ⟨fun _ => ⟨inD5 (i := 39) rfl, rfl⟩, List.forall_mem_cons.mpr ⟨fun _ => ⟨inD5 (i := 40) rfl, rfl⟩, List.forall_mem_cons.mpr ⟨fun _ => ⟨inD4 (i := 235) rfl, rfl⟩, List.forall_mem_cons.mpr ⟨fun _ => ⟨inD5 (i := 40) rfl, rfl⟩, List.forall_mem_cons.mpr ⟨fun _ => ⟨inD5 (i := 41) rfl, rfl⟩, List.forall_mem_cons.mpr ⟨fun _ => ⟨inD5 (i := 42) rfl, rfl⟩, List.forall_mem_cons.mpr ⟨fun _ => ⟨inD5 (i := 13) rfl, rfl⟩, List.forall_mem_cons.mpr ⟨fun _ => ⟨inD4 (i := 237) rfl, rfl⟩, List.forall_mem_cons.mpr ⟨fun _ => ⟨inD5 (i := 168) rfl, rfl⟩, List.forall_mem_cons.mpr ⟨fun _ => ⟨inD5 (i := 160) rfl, rfl⟩, List.forall_mem_cons.mpr ⟨fun _ => ⟨inD5 (i := 161) rfl, rfl⟩, List.forall_mem_cons.mpr ⟨fun _ => ⟨inD5 (i := 162) rfl, rfl⟩, List.forall_mem_cons.mpr ⟨fun _ => ⟨inD5 (i := 23) rfl, rfl⟩, List.forall_mem_cons.mpr ⟨fun _ => ⟨inD5 (i := 163) rfl, rfl⟩, List.forall_mem_cons.mpr ⟨fun _ => ⟨inD5 (i := 164) rfl, rfl⟩, List.forall_mem_cons.mpr ⟨fun _ => ⟨inD5 (i := 165) rfl, rfl⟩, List.forall_mem_cons.mpr ⟨fun _ => ⟨inD5 (i := 166) rfl, rfl⟩, List.forall_mem_cons.mpr ⟨fun q => absurd q (by decide +kernel), List.forall_mem_cons.mpr ⟨fun q => absurd q (by decide +kernel), List.forall_mem_cons.mpr ⟨fun _ => ⟨inD5 (i := 11) rfl, rfl⟩, List.forall_mem_cons.mpr ⟨fun _ => ⟨inD5 (i := 10) rfl, rfl⟩, List.forall_mem_cons.mpr ⟨fun _ => ⟨inD5 (i := 167) rfl, rfl⟩, fun w hw => absurd hw List.not_mem_nil⟩⟩⟩⟩⟩⟩⟩⟩⟩⟩⟩⟩⟩⟩⟩⟩⟩⟩⟩⟩⟩⟩⟩⟩⟩⟩⟩⟩⟩), by decide⟩
theorem tX11_ioobe : LT RX11 382 384 "java/lang/IndexOutOfBoundsException" ["java/lang/RuntimeException", "java/lang/Exception"] := ⟨by decide +kernel, by decide +kernel, (inC5 (i := 97) rfl rfl), (inC1 (i := 25) rfl rfl), at0_of (List.forall_mem_cons.mpr ⟨fun _ => ⟨inD5 (i := 107) rfl, rfl⟩, List.forall_mem_cons.mpr ⟨fun _ => ⟨inD5 (i := 108) rfl, rfl⟩, List.forall_mem_cons.mpr ⟨fun _ => ⟨inD5 (i := 109) rfl, rfl⟩, List.forall_mem_cons.mpr ⟨fun _ => ⟨inD5 (i := 37) rfl, rfl⟩, List.forall_mem_cons.mpr ⟨fun _ => ⟨inD4 (i := 233) rfl, rfl⟩, List.forall_mem_cons.mpr ⟨fun _ => ⟨inD5 (i := 37) rfl, rfl⟩, List.forall_mem_cons.mpr ⟨fun _ => ⟨inD5 (i := 38) rfl, rfl⟩, List.forall_mem_cons.mpr ⟨fun _ => ⟨inD5 (i := 39) rfl, rfl⟩, List.forall_mem_cons.mpr ⟨fun _ => ⟨inD5 (i := 40) rfl, rfl⟩, List.forall_mem_cons.mpr ⟨fun _ => ⟨inD4 (i := 235) rfl, rfl⟩, List.forall_mem_cons.mpr ⟨fun _ => ⟨inD5 (i := 40) rfl, rfl⟩, List.forall_mem_cons.mpr ⟨fun _ => ⟨inD5 (i := 41) rfl, rfl⟩, List.forall_mem_cons.mpr ⟨fun _ => ⟨inD5 (i := 42) rfl, rfl⟩, List.forall_mem_cons.mpr ⟨fun _ => ⟨inD5 (i := 13) rfl, rfl⟩, List.forall_mem_cons.mpr ⟨fun _ => ⟨inD4 (i := 237) rfl, rfl⟩, List.forall_mem_cons.mpr ⟨fun _ => ⟨inD5 (i := 106) rfl, rfl⟩, List.forall_mem_cons.mpr ⟨fun _ => ⟨inD5 (i := 98) rfl, rfl⟩, List.forall_mem_cons.mpr ⟨fun _ => ⟨inD5 (i := 99) rfl, rfl⟩, List.forall_mem_cons.mpr ⟨fun _ => ⟨inD5 (i := 100) rfl, rfl⟩, List.forall_mem_cons.mpr ⟨fun _ => ⟨inD5 (i := 24) rfl, rfl⟩, List.forall_mem_cons.mpr ⟨fun _ => ⟨inD5 (i := 101) rfl, rfl⟩, List.forall_mem_cons.mpr ⟨fun _ => ⟨inD5 (i := 102) rfl, rfl⟩, List.forall_mem_cons.mpr ⟨fun _ => ⟨inD5 (i := 103) rfl, rfl⟩, List.forall_mem_cons.mpr ⟨fun _ => ⟨inD5 (i := 104) rfl, rfl⟩, List.forall_mem_cons.mpr ⟨fun q => absurd q (by decide +kernel), List.forall_mem_cons.mpr ⟨fun q => absurd q (by decide +kernel), List.forall_mem_cons.mpr ⟨fun _ => ⟨inD5 (i := 11) rfl, rfl⟩, List.forall_mem_cons.mpr ⟨fun _ => ⟨inD5 (i := 10) rfl, rfl⟩, List.forall_mem_cons.mpr ⟨fun _ => ⟨inD5 (i := 105) rfl, rfl⟩, fun w hw => absurd hw List.not_mem_nil⟩⟩⟩⟩⟩⟩⟩⟩⟩⟩⟩⟩⟩⟩⟩⟩⟩⟩⟩⟩⟩⟩⟩⟩⟩⟩⟩⟩⟩), by decide⟩
theorem nX3_1 : LN RX3 1 2 9 := ⟨_, rfl, aok_2, rfl, (inC2 (i := 8) rfl rfl), (inC2 (i := 9) rfl rfl), (inC1 (i := 9) rfl rfl), by decide⟩
theorem nX5_49 : LN RX5 49 1 3 := ⟨_, rfl, aok_1, rfl, (inC1 (i := 114) rfl rfl), (inC1 (i := 115) rfl rfl), (inC1 (i := 7) rfl rfl), by decide⟩
theorem nX6_11 : LN RX6 11 5 18 := ⟨_, rfl, aok_5, rfl, (inC1 (i := 108) rfl rfl), (inC1 (i := 109) rfl rfl), (inC1 (i := 6) rfl rfl), by decide⟩
theorem nX8_9 : LN RX8 9 9 10 := ⟨_, rfl, aok_9, rfl, (inC1 (i := 63) rfl rfl), (inC1 (i := 64) rfl rfl), (inC1 (i := 5) rfl rfl), by decide⟩
theorem nL_8 : LN RL 8 11 14 := ⟨_, rfl, aok_11, rfl, (inC1 (i := 30) rfl rfl), (inC1 (i := 31) rfl rfl), (inC1 (i := 1) rfl rfl), by decide⟩
theorem nL_130 : LN RL 130 12 20 := ⟨_, rfl, aok_12, rfl, (inC7 (i := 29) rfl rfl), (inC7 (i := 30) rfl rfl), (inC1 (i := 11) rfl rfl), by decide⟩
end
section
/-! ===== the small helpers of the class ===== -/
def atF (f : Nat → Int32) (n : Nat) (i : Int32) : Int32 := if i < 0 then -1 else if nI n ≤ i then -1 else f i.toNatClampNeg
def setF (I : Nat → Nat → Int32) (p n : Nat) (i v : Int32) : Nat → Nat → Int32 := if i < 0 then I else if nI n ≤ i then I else up2 I p i.toNatClampNeg v
def bitF (i : Int32) : Int32 := if i < 0 then 0 else if 31 ≤ i then 0 else (1 : Int32) <<< (i &&& 31)
def hasF (s i : Int32) : Bool := decide (¬ (s &&& bitF i) = 0)
def bI (b : Bool) : Int32 := if b then 1 else 0
theorem bI_nar (b : Bool) : narrow .boolean (.int (bI b)) = .int (bI b) := by cases b <;> rfl
theorem K0_small : ∀ p, (K0 p).2 < 5000 := by
  have h : ∀ q ∈ KL, q.2 < 5000 := by decide +kernel
  have h2 : ∀ (l : List (Nat × Nat)) (n : Nat), (∀ q ∈ l, q.2 < 5000) → (nthK l n).2 < 5000 := by
    intro l
    induction l with
    | nil => intro n _; simp [nthK]
    | cons a r ih =>
      intro n hl
      cases n with
      | zero => exact hl a List.mem_cons_self
      | succ n => exact ih n fun q hq => hl q (List.mem_cons_of_mem _ hq)
  intro p
  unfold K0
  split
  · exact h2 _ _ h
  · simp
theorem K0_lt {p t n : Nat} (h : K0 p = (t, n)) : n < 2 ^ 31 := by
  have := K0_small p
  rw [h] at this
  omega
theorem inI_of {i : Int32} {n : Nat} (hn : n < 2 ^ 31) (h0 : ¬ i < 0) (h1 : ¬ nI n ≤ i) : inI i n := by
  refine ⟨h0, ?_⟩
  have e0 : ¬ i.toInt < 0 := by rwa [Int32.lt_iff_toInt_lt, Int32.toInt_zero] at h0
  rw [Int32.le_iff_toInt_le, nI_toInt hn] at h1
  show i.toInt.toNat < n
  omega
theorem inI_nI {i n : Nat} (h : i < n) (hn : n < 2 ^ 31) : inI (nI i) n := ⟨nI_pos (by omega), by rw [nI_clamp (by omega)]; exact h⟩
theorem atF_nI {f : Nat → Int32} {n i : Nat} (h : i < n) (hn : n < 2 ^ 31) : atF f n (nI i) = f i := by
  unfold atF
  rw [if_neg (nI_pos (by omega)), if_neg (nI_ge h hn), nI_clamp (by omega)]
theorem setF_nI {I : Nat → Nat → Int32} {p n i : Nat} {v : Int32} (h : i < n) (hn : n < 2 ^ 31) : setF I p n (nI i) v = up2 I p i v := by
  unfold setF
  rw [if_neg (nI_pos (by omega)), if_neg (nI_ge h hn), nI_clamp (by omega)]
set_option maxRecDepth 100000
theorem sp_X11_at {S : aS} {I : Nat → Nat → Int32} {L : Nat → Nat → Int64} {w1 w2 t : Nat} {row n : Nat} {i : Int32} (hK : K0 row = (2, n)) : SpE S m_X11_at 12 [.ref row, .int i] (hp I L w1 w2 t) (some (.int (atF (I row) n i))) (hp I L w1 w2 t) := by
  refine SpE_of ok_X11_at rfl rfl ?_
  show AW S m_X11_at 12 _ _ 0 0 0 [some (.ref row), some (.int i)] [] (hp I L w1 w2 t)
  refine a_l1 rfl rfl rfl ?_
  refine a_if_lt rfl (fun c1 => ?_) (fun c1 => ?_)
  · refine a_s rfl rfl ?_
    refine a_iret rfl rfl ⟨by simp [atF, *], rfl⟩
  · refine a_l1 rfl rfl rfl ?_
    refine a_l0 rfl rfl rfl ?_
    refine a_len rfl hK rfl rfl ?_
    refine a_ic_ge rfl (fun c7 => ?_) (fun c7 => ?_)
    · refine a_s rfl rfl ?_
      refine a_iret rfl rfl ⟨by simp [atF, *], rfl⟩
    · refine a_l0 rfl rfl rfl ?_
      refine a_l1 rfl rfl rfl ?_
      refine a_iald rfl hK (inI_of (K0_lt hK) c1 c7) ?_
      refine a_goto rfl ?_
      refine a_iret rfl rfl ⟨by simp [atF, *], rfl⟩
theorem sp_X11_setAt {S : aS} {I : Nat → Nat → Int32} {L : Nat → Nat → Int64} {w1 w2 t : Nat} {row n : Nat} {i v : Int32} (hK : K0 row = (2, n)) : SpE S m_X11_setAt 12 [.ref row, .int i, .int v] (hp I L w1 w2 t) none (hp (setF I row n i v) L w1 w2 t) := by
  refine SpE_of ok_X11_setAt rfl rfl ?_
  show AW S m_X11_setAt 12 _ _ 0 0 0 [some (.ref row), some (.int i), some (.int v)] [] (hp I L w1 w2 t)
  refine a_l1 rfl rfl rfl ?_
  refine a_if_lt rfl (fun c1 => ?_) (fun c1 => ?_)
  · refine a_vret rfl rfl ⟨rfl, by simp [setF, *]⟩
  · refine a_l1 rfl rfl rfl ?_
    refine a_l0 rfl rfl rfl ?_
    refine a_len rfl hK rfl rfl ?_
    refine a_ic_ge rfl (fun c7 => ?_) (fun c7 => ?_)
    · refine a_vret rfl rfl ⟨rfl, by simp [setF, *]⟩
    · refine a_l0 rfl rfl rfl ?_
      refine a_l1 rfl rfl rfl ?_
      refine a_l2 rfl rfl rfl ?_
      refine a_iast rfl hK (inI_of (K0_lt hK) c1 c7) ?_
      refine a_vret rfl rfl ⟨rfl, by simp [setF, *]⟩
theorem sp_X11_bit {S : aS} {h : aH} {i : Int32} : SpE S m_X11_bit 12 [.int i] (h) (some (.int (bitF i))) (h) := by
  refine SpE_of ok_X11_bit rfl rfl ?_
  show AW S m_X11_bit 12 _ _ 0 0 0 [some (.int i)] [] (h)
  refine a_l0 rfl rfl rfl ?_
  refine a_if_lt rfl (fun c1 => ?_) (fun c1 => ?_)
  · refine a_s rfl rfl ?_
    refine a_iret rfl rfl ⟨by simp [bitF, *], rfl⟩
  · refine a_l0 rfl rfl rfl ?_
    refine a_s rfl rfl ?_
    refine a_ic_ge rfl (fun c7 => ?_) (fun c7 => ?_)
    · refine a_s rfl rfl ?_
      refine a_iret rfl rfl ⟨by simp [bitF, *], rfl⟩
    · refine a_s rfl rfl ?_
      refine a_l0 rfl rfl rfl ?_
      refine a_s rfl rfl ?_
      refine a_goto rfl ?_
      refine a_iret rfl rfl ⟨by simp [bitF, *], rfl⟩
theorem sp_X11_has {S : aS} {h : aH} {s i : Int32} : SpE S m_X11_has 13 [.int s, .int i] (h) (some (.int (bI (hasF s i)))) (h) := by
  refine SpE_of ok_X11_has rfl rfl ?_
  show AW S m_X11_has 13 _ _ 0 0 0 [some (.int s), some (.int i)] [] (h)
  refine a_l0 rfl rfl rfl ?_
  refine a_l1 rfl rfl rfl ?_
  refine a_eS1 rfl lX11_319 mo_X11_bit (sp_X11_bit) rfl rfl rfl rfl ?_
  refine a_s rfl rfl ?_
  refine a_if_eq rfl (fun c6 => ?_) (fun c6 => ?_)
  · refine a_s rfl rfl ?_
    refine a_zret rfl rfl rfl ⟨by simp [hasF, bI, *], rfl⟩
  · refine a_s rfl rfl ?_
    refine a_goto rfl ?_
    refine a_zret rfl rfl rfl ⟨by simp [hasF, bI, *], rfl⟩
end
section
/-! ===== rows, sets of bits ===== -/
def shb (s : Int32) (n : Nat) : Bool := decide (¬ ((s >>> (nI n &&& 31)) &&& 1) = 0)
def sumF (f : Nat → Int32) (s : Int32) : Nat → Int32
  | 0 => 0
  | n + 1 => if shb s n then sumF f s n + f n else sumF f s n
def bs : Nat → (Nat → Bool) → Int32
  | 0, _ => 0
  | n + 1, P => if P n then bs n P ||| bitF (nI n) else bs n P
theorem bs_congr {n : Nat} {P P' : Nat → Bool} (h : ∀ d, d < n → P d = P' d) : bs n P = bs n P' := by
  induction n with
  | zero => rfl
  | succ n ih => simp only [bs]; rw [h n (by omega), ih fun d hd => h d (by omega)]
set_option maxRecDepth 100000
theorem sp_X11_sumOver {S : aS} {I : Nat → Nat → Int32} {L : Nat → Nat → Int64} {w1 w2 t : Nat} {row n : Nat} {s : Int32} (hK : K0 row = (2, n)) : SpE S m_X11_sumOver 12 [.ref row, .int s] (hp I L w1 w2 t) (some (.int (sumF (I row) s n))) (hp I L w1 w2 t) := by
  refine SpE_of ok_X11_sumOver rfl rfl ?_
  show AW S m_X11_sumOver 12 _ _ 0 0 0 [some (.ref row), some (.int s), none, none] [] (hp I L w1 w2 t)
  refine a_s rfl rfl ?_
  refine a_s2 rfl rfl rfl rfl rfl rfl ?_
  refine a_s rfl rfl ?_
  refine a_s3 rfl rfl rfl rfl rfl rfl ?_
  refine a_forE (n := n) (fun j => [some (.ref row), some (.int s), some (.int (sumF (I row) s j)), some (.int (nI j))]) (fun j => hp I L w1 w2 t) (by simp [lsub, nI_0, sumF]) (rfl) ?_ (fun j hj ih4 => ?_)
  · refine a_l3 rfl rfl rfl ?_
    refine a_l0 rfl rfl rfl ?_
    refine a_len rfl hK rfl rfl ?_
    refine a_ic_ge rfl (fun c7 => ?_) (fun c => absurd (Int32.le_refl _) c)
    refine a_l2 rfl rfl rfl ?_
    refine a_iret rfl rfl ⟨rfl, rfl⟩
  · have hn := K0_lt hK
    refine a_l3 rfl rfl rfl ?_
    refine a_l0 rfl rfl rfl ?_
    refine a_len rfl hK rfl rfl ?_
    refine a_ic_ge rfl (fun c => absurd c (nI_ge hj (K0_lt hK))) (fun c7 => ?_)
    refine a_l1 rfl rfl rfl ?_
    refine a_l3 rfl rfl rfl ?_
    refine a_s rfl rfl ?_
    refine a_s rfl rfl ?_
    refine a_s rfl rfl ?_
    refine a_if_eq rfl (fun c15 => ?_) (fun c15 => ?_)
    · refine a_i3 rfl rfl rfl ?_
      refine a_goto rfl ?_
      exact a_back ih4 (by simp [lsub, nI_1, sumF, shb, *]) rfl
    · refine a_l2 rfl rfl rfl ?_
      refine a_l0 rfl rfl rfl ?_
      refine a_l3 rfl rfl rfl ?_
      refine a_iald rfl hK (inI_nI hj hn) ?_
      rw [nI_clamp (by omega)]
      refine a_s rfl rfl ?_
      refine a_s2 rfl rfl rfl rfl rfl rfl ?_
      refine a_i3 rfl rfl rfl ?_
      refine a_goto rfl ?_
      exact a_back ih4 (by simp [lsub, nI_1, sumF, shb, *]) rfl
end
section
/-! ===== a street: what is read off it ===== -/
theorem le_nl (x y : Int32) : x ≤ y ↔ ¬ y < x := Int32.not_lt.symm
theorem bI_0 (b : Bool) : bI b = 0 ↔ b = false := by cases b <;> simp [bI]
def cntF : Nat → (Nat → Bool) → Nat
  | 0, _ => 0
  | n + 1, P => if P n then cntF n P + 1 else cntF n P
theorem cntF_le (n : Nat) (P : Nat → Bool) : cntF n P ≤ n := by
  induction n with
  | zero => exact Nat.le_refl 0
  | succ n ih => unfold cntF; split <;> omega
theorem cntF_congr {n : Nat} {P P' : Nat → Bool} (h : ∀ d, d < n → P d = P' d) : cntF n P = cntF n P' := by
  induction n with
  | zero => rfl
  | succ n ih => simp only [cntF]; rw [h n (by omega), ih fun d hd => h d (by omega)]
def waitF (nd : Nat) (st : Nat → Int32) (i : Int32) : Bool := decide (¬ i < 0 ∧ ¬ nI nd ≤ i ∧ atF st 12 i = 0)
theorem waitF_nI {nd d : Nat} {st : Nat → Int32} (h : d < nd) (hn : nd ≤ 12) : waitF nd st (nI d) = decide (st d = 0) := by
  unfold waitF
  rw [atF_nI (by omega) (by decide)]
  simp [nI_pos (show d < 2 ^ 31 by omega), nI_ge h (by omega)]
def lfF (le st : Nat → Int32) (i : Int32) : Bool := decide (atF le 12 i = -1 ∨ atF st 12 (atF le 12 i) = 1)
def rdF (nd : Nat) (st le : Nat → Int32) (i : Int32) : Bool := waitF nd st i && lfF le st i
def inS (nd : Nat) (st : Nat → Int32) (w : Int32) : Int32 := bs nd (fun d => decide (st d = w))
def oldF (nd : Nat) (st ag : Nat → Int32) (m : Int32) : Int32 := bs nd (fun d => decide (st d = 0 ∧ m < ag d))
def ownF (nd : Nat) (ow : Nat → Int32) (p : Int32) : Int32 := bs nd (fun d => decide (ow d = p))
def loadF (nd : Nat) (st ow lf : Nat → Int32) (p : Int32) : Int32 := sumF lf (inS nd st 0 &&& ownF nd ow p) 12
def standF (np : Nat) (ke : Nat → Int32) (x y : Int32) : Int32 := bs np (fun p => decide (x ≤ ke p ∧ ke p ≤ y))
def placeC (nd : Nat) (st ag : Nat → Int32) (i : Int32) : Nat := cntF nd (fun d => decide (st d = 0 ∧ (ag d < atF ag 12 i ∨ (ag d = atF ag 12 i ∧ nI d < i))))
def placeF (nd : Nat) (st ag : Nat → Int32) (i : Int32) : Int32 := if waitF nd st i then nI (placeC nd st ag i) else -1
set_option maxRecDepth 100000
theorem sp_X5_isWaiting {S : aS} {I : Nat → Nat → Int32} {L : Nat → Nat → Int64} {w1 w2 t : Nat} {a nd : Nat} (hs : stp a) (hd : I a 3 = nI nd) (hn : nd ≤ 12) {i : Int32} : SpE S m_X5_isWaiting 14 [.ref a, .int i] (hp I L w1 w2 t) (some (.int (bI (waitF nd (I (a + 8)) i)))) (hp I L w1 w2 t) := by
  refine SpE_of ok_X5_isWaiting rfl rfl ?_
  show AW S m_X5_isWaiting 14 _ _ 0 0 0 [some (.ref a), some (.int i)] [] (hp I L w1 w2 t)
  refine a_l1 rfl rfl rfl ?_
  refine a_if_lt rfl (fun c1 => ?_) (fun c1 => ?_)
  · refine a_s rfl rfl ?_
    refine a_zret rfl rfl rfl ⟨by simp [waitF, bI, *], rfl⟩
  · refine a_l1 rfl rfl rfl ?_
    refine a_l0 rfl rfl rfl ?_
    refine a_geti rfl gfX5_63_5 (kS0 hs) ?_
    rw [hd]
    refine a_ic_ge rfl (fun c9 => ?_) (fun c9 => ?_)
    · refine a_s rfl rfl ?_
      refine a_zret rfl rfl rfl ⟨by simp [waitF, bI, *], rfl⟩
    · refine a_l0 rfl rfl rfl ?_
      refine a_getq rfl gfX5_33_5 (kS0 hs) (rS9 hs) ?_
      refine a_l1 rfl rfl rfl ?_
      refine a_eSN1 rfl lX5_86 mo_X11_at (sp_X11_at (by first | rfl | assumption | exact kS0 hs | exact kS1 hs | exact kS2 hs | exact kS3 hs | exact kS4 hs | exact kS5 hs | exact kS6 hs | exact kS7 hs | exact kS8 hs | exact kS9 hs | exact kS10 hs)) rfl rfl rfl rfl ?_
      refine a_if_ne rfl (fun c20 => ?_) (fun c20 => ?_)
      · refine a_s rfl rfl ?_
        refine a_zret rfl rfl rfl ⟨by simp [waitF, bI, *], rfl⟩
      · refine a_s rfl rfl ?_
        refine a_goto rfl ?_
        refine a_zret rfl rfl rfl ⟨by simp [waitF, bI, *], rfl⟩
theorem sp_X5_leansFreely {S : aS} {I : Nat → Nat → Int32} {L : Nat → Nat → Int64} {w1 w2 t : Nat} {a : Nat} (hs : stp a) {i : Int32} : SpE S m_X5_leansFreely 14 [.ref a, .int i] (hp I L w1 w2 t) (some (.int (bI (lfF (I (a + 7)) (I (a + 8)) i)))) (hp I L w1 w2 t) := by
  refine SpE_of ok_X5_leansFreely rfl rfl ?_
  show AW S m_X5_leansFreely 14 _ _ 0 0 0 [some (.ref a), some (.int i), none] [] (hp I L w1 w2 t)
  refine a_l0 rfl rfl rfl ?_
  refine a_getq rfl gfX5_30_5 (kS0 hs) (rS8 hs) ?_
  refine a_l1 rfl rfl rfl ?_
  refine a_eSN1 rfl lX5_86 mo_X11_at (sp_X11_at (by first | rfl | assumption | exact kS0 hs | exact kS1 hs | exact kS2 hs | exact kS3 hs | exact kS4 hs | exact kS5 hs | exact kS6 hs | exact kS7 hs | exact kS8 hs | exact kS9 hs | exact kS10 hs)) rfl rfl rfl rfl ?_
  refine a_s2 rfl rfl rfl rfl rfl rfl ?_
  refine a_l2 rfl rfl rfl ?_
  refine a_s rfl rfl ?_
  refine a_ic_eq rfl (fun c11 => ?_) (fun c11 => ?_)
  · refine a_s rfl rfl ?_
    refine a_goto rfl ?_
    refine a_zret rfl rfl rfl ⟨by simp [lfF, bI, *], rfl⟩
  · refine a_l0 rfl rfl rfl ?_
    refine a_getq rfl gfX5_33_5 (kS0 hs) (rS9 hs) ?_
    refine a_l2 rfl rfl rfl ?_
    refine a_eSN1 rfl lX5_86 mo_X11_at (sp_X11_at (by first | rfl | assumption | exact kS0 hs | exact kS1 hs | exact kS2 hs | exact kS3 hs | exact kS4 hs | exact kS5 hs | exact kS6 hs | exact kS7 hs | exact kS8 hs | exact kS9 hs | exact kS10 hs)) rfl rfl rfl rfl ?_
    refine a_s rfl rfl ?_
    refine a_ic_ne rfl (fun c23 => ?_) (fun c23 => ?_)
    · refine a_s rfl rfl ?_
      refine a_zret rfl rfl rfl ⟨by simp [lfF, bI, *], rfl⟩
    · refine a_s rfl rfl ?_
      refine a_goto rfl ?_
      refine a_zret rfl rfl rfl ⟨by simp [lfF, bI, *], rfl⟩
theorem sp_X5_isReady {S : aS} {I : Nat → Nat → Int32} {L : Nat → Nat → Int64} {w1 w2 t : Nat} {a nd : Nat} (hs : stp a) (hd : I a 3 = nI nd) (hn : nd ≤ 12) {i : Int32} : SpE S m_X5_isReady 15 [.ref a, .int i] (hp I L w1 w2 t) (some (.int (bI (rdF nd (I (a + 8)) (I (a + 7)) i)))) (hp I L w1 w2 t) := by
  refine SpE_of ok_X5_isReady rfl rfl ?_
  show AW S m_X5_isReady 15 _ _ 0 0 0 [some (.ref a), some (.int i)] [] (hp I L w1 w2 t)
  refine a_l0 rfl rfl rfl ?_
  refine a_l1 rfl rfl rfl ?_
  refine a_eV1 rfl lX5_90 mo_X5_isWaiting (sp_X5_isWaiting hs hd hn) rfl rfl rfl ⟨5, _, (kS0 hs), rfl, rfl⟩ rfl ?_
  refine a_if_eq rfl (fun c5 => ?_) (fun c5 => ?_)
  · refine a_s rfl rfl ?_
    refine a_zret rfl rfl rfl ⟨by simp_all [rdF, bI_0, bI], rfl⟩
  · refine a_l0 rfl rfl rfl ?_
    refine a_l1 rfl rfl rfl ?_
    refine a_eV1 rfl lX5_94 mo_X5_leansFreely (sp_X5_leansFreely hs) rfl rfl rfl ⟨5, _, (kS0 hs), rfl, rfl⟩ rfl ?_
    refine a_if_eq rfl (fun c13 => ?_) (fun c13 => ?_)
    · refine a_s rfl rfl ?_
      refine a_zret rfl rfl rfl ⟨by simp_all [rdF, bI_0, bI], rfl⟩
    · refine a_s rfl rfl ?_
      refine a_goto rfl ?_
      refine a_zret rfl rfl rfl ⟨by simp_all [rdF, bI_0, bI], rfl⟩
theorem sp_X5_bitsIn {S : aS} {I : Nat → Nat → Int32} {L : Nat → Nat → Int64} {w1 w2 t : Nat} {a nd : Nat} (hs : stp a) (hd : I a 3 = nI nd) (hn : nd ≤ 12) {w : Int32} : SpE S m_X5_bitsIn 15 [.ref a, .int w] (hp I L w1 w2 t) (some (.int (inS nd (I (a + 8)) w))) (hp I L w1 w2 t) := by
  refine SpE_of ok_X5_bitsIn rfl rfl ?_
  show AW S m_X5_bitsIn 15 _ _ 0 0 0 [some (.ref a), some (.int w), none, none] [] (hp I L w1 w2 t)
  refine a_s rfl rfl ?_
  refine a_s2 rfl rfl rfl rfl rfl rfl ?_
  refine a_s rfl rfl ?_
  refine a_s3 rfl rfl rfl rfl rfl rfl ?_
  refine a_forE (n := nd) (fun j => [some (.ref a), some (.int w), some (.int (bs j (fun d => decide (I (a + 8) d = w)))), some (.int (nI j))]) (fun j => hp I L w1 w2 t) (by simp [lsub, nI_0, bs, sumF, cntF]) (rfl) ?_ (fun j hj ih4 => ?_)
  · refine a_l3 rfl rfl rfl ?_
    refine a_l0 rfl rfl rfl ?_
    refine a_geti rfl gfX5_63_5 (kS0 hs) ?_
    refine a_ic_ge rfl (fun c9 => ?_) (fun c => absurd (by rw [hd]; exact Int32.le_refl _) c)
    refine a_l2 rfl rfl rfl ?_
    refine a_iret rfl rfl ⟨rfl, rfl⟩
  · refine a_l3 rfl rfl rfl ?_
    refine a_l0 rfl rfl rfl ?_
    refine a_geti rfl gfX5_63_5 (kS0 hs) ?_
    refine a_ic_ge rfl (fun c => absurd c (by rw [hd]; exact nI_ge hj (by omega))) (fun c9 => ?_)
    refine a_l0 rfl rfl rfl ?_
    refine a_getq rfl gfX5_33_5 (kS0 hs) (rS9 hs) ?_
    refine a_l3 rfl rfl rfl ?_
    refine a_eSN1 rfl lX5_86 mo_X11_at (sp_X11_at (by first | rfl | assumption | exact kS0 hs | exact kS1 hs | exact kS2 hs | exact kS3 hs | exact kS4 hs | exact kS5 hs | exact kS6 hs | exact kS7 hs | exact kS8 hs | exact kS9 hs | exact kS10 hs)) rfl rfl rfl rfl ?_
    rw [atF_nI (by omega) (by decide)]
    refine a_l1 rfl rfl rfl ?_
    refine a_ic_ne rfl (fun c21 => ?_) (fun c21 => ?_)
    · refine a_i3 rfl rfl rfl ?_
      refine a_goto rfl ?_
      exact a_back ih4 (by simp [lsub, nI_1, bs, *]) rfl
    · refine a_l2 rfl rfl rfl ?_
      refine a_l3 rfl rfl rfl ?_
      refine a_eSN1 rfl lX5_97 mo_X11_bit (sp_X11_bit) rfl rfl rfl rfl ?_
      refine a_s rfl rfl ?_
      refine a_s2 rfl rfl rfl rfl rfl rfl ?_
      refine a_i3 rfl rfl rfl ?_
      refine a_goto rfl ?_
      exact a_back ih4 (by simp [lsub, nI_1, bs, *]) rfl
theorem sp_X5_olderThan {S : aS} {I : Nat → Nat → Int32} {L : Nat → Nat → Int64} {w1 w2 t : Nat} {a nd : Nat} (hs : stp a) (hd : I a 3 = nI nd) (hn : nd ≤ 12) {m : Int32} : SpE S m_X5_olderThan 15 [.ref a, .int m] (hp I L w1 w2 t) (some (.int (oldF nd (I (a + 8)) (I (a + 5)) m))) (hp I L w1 w2 t) := by
  refine SpE_of ok_X5_olderThan rfl rfl ?_
  show AW S m_X5_olderThan 15 _ _ 0 0 0 [some (.ref a), some (.int m), none, none] [] (hp I L w1 w2 t)
  refine a_s rfl rfl ?_
  refine a_s2 rfl rfl rfl rfl rfl rfl ?_
  refine a_s rfl rfl ?_
  refine a_s3 rfl rfl rfl rfl rfl rfl ?_
  refine a_forE (n := nd) (fun j => [some (.ref a), some (.int m), some (.int (bs j (fun d => decide (I (a + 8) d = 0 ∧ m < I (a + 5) d)))), some (.int (nI j))]) (fun j => hp I L w1 w2 t) (by simp [lsub, nI_0, bs, sumF, cntF]) (rfl) ?_ (fun j hj ih4 => ?_)
  · refine a_l3 rfl rfl rfl ?_
    refine a_l0 rfl rfl rfl ?_
    refine a_geti rfl gfX5_63_5 (kS0 hs) ?_
    refine a_ic_ge rfl (fun c9 => ?_) (fun c => absurd (by rw [hd]; exact Int32.le_refl _) c)
    refine a_l2 rfl rfl rfl ?_
    refine a_iret rfl rfl ⟨rfl, rfl⟩
  · refine a_l3 rfl rfl rfl ?_
    refine a_l0 rfl rfl rfl ?_
    refine a_geti rfl gfX5_63_5 (kS0 hs) ?_
    refine a_ic_ge rfl (fun c => absurd c (by rw [hd]; exact nI_ge hj (by omega))) (fun c9 => ?_)
    refine a_l0 rfl rfl rfl ?_
    refine a_l3 rfl rfl rfl ?_
    refine a_eV1 rfl lX5_90 mo_X5_isWaiting (sp_X5_isWaiting hs hd hn) rfl rfl rfl ⟨5, _, (kS0 hs), rfl, rfl⟩ rfl ?_
    rw [waitF_nI hj hn]
    refine a_if_eq rfl (fun c17 => ?_) (fun c17 => ?_)
    · refine a_i3 rfl rfl rfl ?_
      refine a_goto rfl ?_
      exact a_back ih4 (by simp_all [lsub, nI_1, bs, bI_0, waitF_nI, le_nl, -Int32.not_lt, -Int32.not_le]) rfl
    · refine a_l0 rfl rfl rfl ?_
      refine a_getq rfl gfX5_24_5 (kS0 hs) (rS6 hs) ?_
      refine a_l3 rfl rfl rfl ?_
      refine a_eSN1 rfl lX5_86 mo_X11_at (sp_X11_at (by first | rfl | assumption | exact kS0 hs | exact kS1 hs | exact kS2 hs | exact kS3 hs | exact kS4 hs | exact kS5 hs | exact kS6 hs | exact kS7 hs | exact kS8 hs | exact kS9 hs | exact kS10 hs)) rfl rfl rfl rfl ?_
      rw [atF_nI (by omega) (by decide)]
      refine a_l1 rfl rfl rfl ?_
      refine a_ic_le rfl (fun c29 => ?_) (fun c29 => ?_)
      · refine a_i3 rfl rfl rfl ?_
        refine a_goto rfl ?_
        exact a_back ih4 (by simp_all [lsub, nI_1, bs, bI_0, waitF_nI, le_nl, -Int32.not_lt, -Int32.not_le]) rfl
      · refine a_l2 rfl rfl rfl ?_
        refine a_l3 rfl rfl rfl ?_
        refine a_eSN1 rfl lX5_97 mo_X11_bit (sp_X11_bit) rfl rfl rfl rfl ?_
        refine a_s rfl rfl ?_
        refine a_s2 rfl rfl rfl rfl rfl rfl ?_
        refine a_i3 rfl rfl rfl ?_
        refine a_goto rfl ?_
        exact a_back ih4 (by simp_all [lsub, nI_1, bs, bI_0, waitF_nI, le_nl, -Int32.not_lt, -Int32.not_le]) rfl
theorem sp_X5_placeOf {S : aS} {I : Nat → Nat → Int32} {L : Nat → Nat → Int64} {w1 w2 t : Nat} {a nd : Nat} (hs : stp a) (hd : I a 3 = nI nd) (hn : nd ≤ 12) {i : Int32} : SpE S m_X5_placeOf 15 [.ref a, .int i] (hp I L w1 w2 t) (some (.int (placeF nd (I (a + 8)) (I (a + 5)) i))) (hp I L w1 w2 t) := by
  refine SpE_of ok_X5_placeOf rfl rfl ?_
  show AW S m_X5_placeOf 15 _ _ 0 0 0 [some (.ref a), some (.int i), none, none, none, none] [] (hp I L w1 w2 t)
  refine a_l0 rfl rfl rfl ?_
  refine a_l1 rfl rfl rfl ?_
  refine a_eV1 rfl lX5_90 mo_X5_isWaiting (sp_X5_isWaiting hs hd hn) rfl rfl rfl ⟨5, _, (kS0 hs), rfl, rfl⟩ rfl ?_
  refine a_if_ne rfl (fun c5 => ?_) (fun c5 => ?_)
  · refine a_l0 rfl rfl rfl ?_
    refine a_getq rfl gfX5_24_5 (kS0 hs) (rS6 hs) ?_
    refine a_l1 rfl rfl rfl ?_
    refine a_eSN1 rfl lX5_86 mo_X11_at (sp_X11_at (by first | rfl | assumption | exact kS0 hs | exact kS1 hs | exact kS2 hs | exact kS3 hs | exact kS4 hs | exact kS5 hs | exact kS6 hs | exact kS7 hs | exact kS8 hs | exact kS9 hs | exact kS10 hs)) rfl rfl rfl rfl ?_
    refine a_s2 rfl rfl rfl rfl rfl rfl ?_
    refine a_s rfl rfl ?_
    refine a_s3 rfl rfl rfl rfl rfl rfl ?_
    refine a_s rfl rfl ?_
    refine a_s4 rfl rfl rfl rfl rfl rfl ?_
    refine a_forE (n := nd) (fun j => [some (.ref a), some (.int i), some (.int (atF (I (a + 5)) 12 i)), some (.int (nI (cntF j (fun d => decide (I (a + 8) d = 0 ∧ (I (a + 5) d < atF (I (a + 5)) 12 i ∨ (I (a + 5) d = atF (I (a + 5)) 12 i ∧ nI d < i))))))), some (.int (nI j)), none]) (fun j => hp I L w1 w2 t) (by simp [lsub, nI_0, bs, sumF, cntF]) (rfl) ?_ (fun j hj ih24 => ?_)
    · refine a_l4 rfl rfl rfl ?_
      refine a_l0 rfl rfl rfl ?_
      refine a_geti rfl gfX5_63_5 (kS0 hs) ?_
      refine a_ic_ge rfl (fun c30 => ?_) (fun c => absurd (by rw [hd]; exact Int32.le_refl _) c)
      refine a_l3 rfl rfl rfl ?_
      refine a_iret rfl rfl ⟨by simp_all [placeF, placeC, bI_0], rfl⟩
    · refine a_l4 rfl rfl rfl ?_
      refine a_l0 rfl rfl rfl ?_
      refine a_geti rfl gfX5_63_5 (kS0 hs) ?_
      refine a_ic_ge rfl (fun c => absurd c (by rw [hd]; exact nI_ge hj (by omega))) (fun c30 => ?_)
      refine a_l0 rfl rfl rfl ?_
      refine a_getq rfl gfX5_24_5 (kS0 hs) (rS6 hs) ?_
      refine a_l4 rfl rfl rfl ?_
      refine a_eSN1 rfl lX5_86 mo_X11_at (sp_X11_at (by first | rfl | assumption | exact kS0 hs | exact kS1 hs | exact kS2 hs | exact kS3 hs | exact kS4 hs | exact kS5 hs | exact kS6 hs | exact kS7 hs | exact kS8 hs | exact kS9 hs | exact kS10 hs)) rfl rfl rfl rfl ?_
      rw [atF_nI (by omega) (by decide)]
      refine a_s5 rfl rfl rfl rfl rfl rfl ?_
      refine a_l0 rfl rfl rfl ?_
      refine a_l4 rfl rfl rfl ?_
      refine a_eV1 rfl lX5_90 mo_X5_isWaiting (sp_X5_isWaiting hs hd hn) rfl rfl rfl ⟨5, _, (kS0 hs), rfl, rfl⟩ rfl ?_
      rw [waitF_nI hj hn]
      refine a_if_eq rfl (fun c50 => ?_) (fun c50 => ?_)
      · refine a_i4 rfl rfl rfl ?_
        refine a_goto rfl ?_
        exact a_back ih24 (by simp_all [lsub, nI_1, cntF, bI_0, le_nl, -Int32.not_lt, -Int32.not_le]) rfl
      · refine a_l5 rfl rfl rfl ?_
        refine a_l2 rfl rfl rfl ?_
        refine a_ic_lt rfl (fun c56 => ?_) (fun c56 => ?_)
        · refine a_i3 rfl rfl rfl ?_
          refine a_i4 rfl rfl rfl ?_
          refine a_goto rfl ?_
          exact a_back ih24 (by simp_all [lsub, nI_1, cntF, bI_0, le_nl, -Int32.not_lt, -Int32.not_le]) rfl
        · refine a_l5 rfl rfl rfl ?_
          refine a_l2 rfl rfl rfl ?_
          refine a_ic_ne rfl (fun c62 => ?_) (fun c62 => ?_)
          · refine a_i4 rfl rfl rfl ?_
            refine a_goto rfl ?_
            exact a_back ih24 (by simp_all [lsub, nI_1, cntF, bI_0, le_nl, -Int32.not_lt, -Int32.not_le]) rfl
          · refine a_l4 rfl rfl rfl ?_
            refine a_l1 rfl rfl rfl ?_
            refine a_ic_ge rfl (fun c68 => ?_) (fun c68 => ?_)
            · refine a_i4 rfl rfl rfl ?_
              refine a_goto rfl ?_
              exact a_back ih24 (by simp_all [lsub, nI_1, cntF, bI_0, le_nl, -Int32.not_lt, -Int32.not_le]) rfl
            · refine a_i3 rfl rfl rfl ?_
              refine a_i4 rfl rfl rfl ?_
              refine a_goto rfl ?_
              exact a_back ih24 (by simp_all [lsub, nI_1, cntF, bI_0, le_nl, -Int32.not_lt, -Int32.not_le]) rfl
  · refine a_s rfl rfl ?_
    refine a_iret rfl rfl ⟨by simp_all [placeF, bI_0], rfl⟩
end
section
/-! ===== a street: more reads, small writes ===== -/
def rdBits (nd : Nat) (st le : Nat → Int32) : Int32 := bs nd (fun d => rdF nd st le (nI d))
def alikeF (nd : Nat) (st lf ag : Nat → Int32) (i k : Int32) : Bool := waitF nd st i && (waitF nd st k && decide (atF lf 12 i = atF lf 12 k ∧ atF ag 12 i = atF ag 12 k))
def bcF (x : Int32) : Int32 := let a := x - (((x.toUInt32 >>> ((1 : Int32).toUInt32 &&& Int32.toUInt32 31)).toInt32) &&& 1431655765); let b := (a &&& 858993459) + ((a.toUInt32 >>> ((2 : Int32).toUInt32 &&& Int32.toUInt32 31)).toInt32 &&& 858993459); let c := (b + (b.toUInt32 >>> ((4 : Int32).toUInt32 &&& Int32.toUInt32 31)).toInt32) &&& 252645135; let e := c + (c.toUInt32 >>> ((8 : Int32).toUInt32 &&& Int32.toUInt32 31)).toInt32; let f := e + (e.toUInt32 >>> ((16 : Int32).toUInt32 &&& Int32.toUInt32 31)).toInt32; f &&& 63
def passF (nd : Nat) (st ag : Nat → Int32) (pace i : Int32) : Int32 := if waitF nd st i then pace * bcF (inS nd st 0 &&& (oldF nd st ag (atF ag 12 i) ^^^ (-1))) else 0
def canF (nd : Nat) (st le lf ag : Nat → Int32) (pace : Int32) : Int32 := bs nd (fun d => rdF nd st le (nI d) && decide (lf d ≤ passF nd st ag pace (nI d)))
def kerbF (nd : Nat) (st ag : Nat → Int32) (pace i hour : Int32) : Int32 := if placeF nd st ag i = -1 then -1 else if 1 ≤ pace then (if 0 ≤ hour / pace - placeF nd st ag i then (if 16 < hour / pace - placeF nd st ag i then 16 else hour / pace - placeF nd st ag i) else -1) else -1
def finF (I : Nat → Nat → Int32) (a : Nat) (i : Int32) : Nat → Nat → Int32 := setF (setF I (a + 4) 12 i 0) (a + 8) 12 i 1
def growF (I : Nat → Nat → Int32) (a : Nat) (i : Int32) : Nat → Nat → Int32 := setF I (a + 5) 12 i (if atF (I (a + 5)) 12 i + 1 < 99 then atF (I (a + 5)) 12 i + 1 else 99)
def seedF (x : Int32) : Int32 := x * 1103515245 + 12345
def drawV (x : Int32) : Int32 := (x.toUInt32 >>> ((16 : Int32).toUInt32 &&& Int32.toUInt32 31)).toInt32 &&& 32767
theorem ic_ne1 : ¬ (-1 : Int32) = 0 := by decide
set_option maxRecDepth 100000
theorem sp_bitCount {S : aS} {h : aH} {x : Int32} : SpE S m_J6_bitCount_0f7a4 12 [.int x] (h) (some (.int (bcF x))) (h) := by
  refine SpE_of ok_J6_bitCount_0f7a4 rfl rfl ?_
  show AW S m_J6_bitCount_0f7a4 12 _ _ 0 0 0 [some (.int x)] [] (h)
  refine a_l0 rfl rfl rfl ?_
  refine a_l0 rfl rfl rfl ?_
  refine a_s rfl rfl ?_
  refine a_s rfl rfl ?_
  refine a_ldcw rfl kJ6_265 ?_
  refine a_s rfl rfl ?_
  refine a_s rfl rfl ?_
  refine a_s0 rfl rfl rfl rfl rfl ?_
  refine a_l0 rfl rfl rfl ?_
  refine a_ldcw rfl kJ6_266 ?_
  refine a_s rfl rfl ?_
  refine a_l0 rfl rfl rfl ?_
  refine a_s rfl rfl ?_
  refine a_s rfl rfl ?_
  refine a_ldcw rfl kJ6_266 ?_
  refine a_s rfl rfl ?_
  refine a_s rfl rfl ?_
  refine a_s0 rfl rfl rfl rfl rfl ?_
  refine a_l0 rfl rfl rfl ?_
  refine a_l0 rfl rfl rfl ?_
  refine a_s rfl rfl ?_
  refine a_s rfl rfl ?_
  refine a_s rfl rfl ?_
  refine a_ldcw rfl kJ6_267 ?_
  refine a_s rfl rfl ?_
  refine a_s0 rfl rfl rfl rfl rfl ?_
  refine a_l0 rfl rfl rfl ?_
  refine a_l0 rfl rfl rfl ?_
  refine a_s rfl rfl ?_
  refine a_s rfl rfl ?_
  refine a_s rfl rfl ?_
  refine a_s0 rfl rfl rfl rfl rfl ?_
  refine a_l0 rfl rfl rfl ?_
  refine a_l0 rfl rfl rfl ?_
  refine a_s rfl rfl ?_
  refine a_s rfl rfl ?_
  refine a_s rfl rfl ?_
  refine a_s0 rfl rfl rfl rfl rfl ?_
  refine a_l0 rfl rfl rfl ?_
  refine a_s rfl rfl ?_
  refine a_s rfl rfl ?_
  refine a_iret rfl rfl ⟨rfl, rfl⟩
theorem sp_X5_readyBits {S : aS} {I : Nat → Nat → Int32} {L : Nat → Nat → Int64} {w1 w2 t : Nat} {a nd : Nat} (hs : stp a) (hd : I a 3 = nI nd) (hn : nd ≤ 12) : SpE S m_X5_readyBits 16 [.ref a] (hp I L w1 w2 t) (some (.int (rdBits nd (I (a + 8)) (I (a + 7))))) (hp I L w1 w2 t) := by
  refine SpE_of ok_X5_readyBits rfl rfl ?_
  show AW S m_X5_readyBits 16 _ _ 0 0 0 [some (.ref a), none, none] [] (hp I L w1 w2 t)
  refine a_s rfl rfl ?_
  refine a_s1 rfl rfl rfl rfl rfl rfl ?_
  refine a_s rfl rfl ?_
  refine a_s2 rfl rfl rfl rfl rfl rfl ?_
  refine a_forE (n := nd) (fun j => [some (.ref a), some (.int (bs j (fun d => rdF nd (I (a + 8)) (I (a + 7)) (nI d)))), some (.int (nI j))]) (fun j => hp I L w1 w2 t) (by simp [lsub, nI_0, bs, sumF, cntF]) (rfl) ?_ (fun j hj ih4 => ?_)
  · refine a_l2 rfl rfl rfl ?_
    refine a_l0 rfl rfl rfl ?_
    refine a_geti rfl gfX5_63_5 (kS0 hs) ?_
    refine a_ic_ge rfl (fun c9 => ?_) (fun c => absurd (by rw [hd]; exact Int32.le_refl _) c)
    refine a_l1 rfl rfl rfl ?_
    refine a_iret rfl rfl ⟨rfl, rfl⟩
  · refine a_l2 rfl rfl rfl ?_
    refine a_l0 rfl rfl rfl ?_
    refine a_geti rfl gfX5_63_5 (kS0 hs) ?_
    refine a_ic_ge rfl (fun c => absurd c (by rw [hd]; exact nI_ge hj (by omega))) (fun c9 => ?_)
    refine a_l0 rfl rfl rfl ?_
    refine a_l2 rfl rfl rfl ?_
    refine a_eV1 rfl lX5_101 mo_X5_isReady (sp_X5_isReady hs hd hn) rfl rfl rfl ⟨5, _, (kS0 hs), rfl, rfl⟩ rfl ?_
    refine a_if_eq rfl (fun c17 => ?_) (fun c17 => ?_)
    · refine a_i2 rfl rfl rfl ?_
      refine a_goto rfl ?_
      exact a_back ih4 (by simp_all [lsub, nI_1, bs, bI_0]) rfl
    · refine a_l1 rfl rfl rfl ?_
      refine a_l2 rfl rfl rfl ?_
      refine a_eSN1 rfl lX5_97 mo_X11_bit (sp_X11_bit) rfl rfl rfl rfl ?_
      refine a_s rfl rfl ?_
      refine a_s1 rfl rfl rfl rfl rfl rfl ?_
      refine a_i2 rfl rfl rfl ?_
      refine a_goto rfl ?_
      exact a_back ih4 (by simp_all [lsub, nI_1, bs, bI_0]) rfl
theorem sp_X5_ownedBy {S : aS} {I : Nat → Nat → Int32} {L : Nat → Nat → Int64} {w1 w2 t : Nat} {a nd : Nat} (hs : stp a) (hd : I a 3 = nI nd) (hn : nd ≤ 12) {w : Int32} : SpE S m_X5_ownedBy 15 [.ref a, .int w] (hp I L w1 w2 t) (some (.int (ownF nd (I (a + 3)) w))) (hp I L w1 w2 t) := by
  refine SpE_of ok_X5_ownedBy rfl rfl ?_
  show AW S m_X5_ownedBy 15 _ _ 0 0 0 [some (.ref a), some (.int w), none, none] [] (hp I L w1 w2 t)
  refine a_s rfl rfl ?_
  refine a_s2 rfl rfl rfl rfl rfl rfl ?_
  refine a_s rfl rfl ?_
  refine a_s3 rfl rfl rfl rfl rfl rfl ?_
  refine a_forE (n := nd) (fun j => [some (.ref a), some (.int w), some (.int (bs j (fun d => decide (I (a + 3) d = w)))), some (.int (nI j))]) (fun j => hp I L w1 w2 t) (by simp [lsub, nI_0, bs, sumF, cntF]) (rfl) ?_ (fun j hj ih4 => ?_)
  · refine a_l3 rfl rfl rfl ?_
    refine a_l0 rfl rfl rfl ?_
    refine a_geti rfl gfX5_63_5 (kS0 hs) ?_
    refine a_ic_ge rfl (fun c9 => ?_) (fun c => absurd (by rw [hd]; exact Int32.le_refl _) c)
    refine a_l2 rfl rfl rfl ?_
    refine a_iret rfl rfl ⟨rfl, rfl⟩
  · refine a_l3 rfl rfl rfl ?_
    refine a_l0 rfl rfl rfl ?_
    refine a_geti rfl gfX5_63_5 (kS0 hs) ?_
    refine a_ic_ge rfl (fun c => absurd c (by rw [hd]; exact nI_ge hj (by omega))) (fun c9 => ?_)
    refine a_l0 rfl rfl rfl ?_
    refine a_getq rfl gfX5_18_5 (kS0 hs) (rS4 hs) ?_
    refine a_l3 rfl rfl rfl ?_
    refine a_eSN1 rfl lX5_86 mo_X11_at (sp_X11_at (by first | rfl | assumption | exact kS0 hs | exact kS1 hs | exact kS2 hs | exact kS3 hs | exact kS4 hs | exact kS5 hs | exact kS6 hs | exact kS7 hs | exact kS8 hs | exact kS9 hs | exact kS10 hs)) rfl rfl rfl rfl ?_
    rw [atF_nI (by omega) (by decide)]
    refine a_l1 rfl rfl rfl ?_
    refine a_ic_ne rfl (fun c21 => ?_) (fun c21 => ?_)
    · refine a_i3 rfl rfl rfl ?_
      refine a_goto rfl ?_
      exact a_back ih4 (by simp [lsub, nI_1, bs, *]) rfl
    · refine a_l2 rfl rfl rfl ?_
      refine a_l3 rfl rfl rfl ?_
      refine a_eSN1 rfl lX5_97 mo_X11_bit (sp_X11_bit) rfl rfl rfl rfl ?_
      refine a_s rfl rfl ?_
      refine a_s2 rfl rfl rfl rfl rfl rfl ?_
      refine a_i3 rfl rfl rfl ?_
      refine a_goto rfl ?_
      exact a_back ih4 (by simp [lsub, nI_1, bs, *]) rfl
theorem sp_X5_loadOf {S : aS} {I : Nat → Nat → Int32} {L : Nat → Nat → Int64} {w1 w2 t : Nat} {a nd : Nat} (hs : stp a) (hd : I a 3 = nI nd) (hn : nd ≤ 12) {w : Int32} : SpE S m_X5_loadOf 16 [.ref a, .int w] (hp I L w1 w2 t) (some (.int (loadF nd (I (a + 8)) (I (a + 3)) (I (a + 4)) w))) (hp I L w1 w2 t) := by
  refine SpE_of ok_X5_loadOf rfl rfl ?_
  show AW S m_X5_loadOf 16 _ _ 0 0 0 [some (.ref a), some (.int w)] [] (hp I L w1 w2 t)
  refine a_l0 rfl rfl rfl ?_
  refine a_getq rfl gfX5_21_5 (kS0 hs) (rS5 hs) ?_
  refine a_l0 rfl rfl rfl ?_
  refine a_s rfl rfl ?_
  refine a_eV1 rfl lX5_104 mo_X5_bitsIn (sp_X5_bitsIn hs hd hn) rfl rfl rfl ⟨5, _, (kS0 hs), rfl, rfl⟩ rfl ?_
  refine a_l0 rfl rfl rfl ?_
  refine a_l1 rfl rfl rfl ?_
  refine a_eV1 rfl lX5_107 mo_X5_ownedBy (sp_X5_ownedBy hs hd hn) rfl rfl rfl ⟨5, _, (kS0 hs), rfl, rfl⟩ rfl ?_
  refine a_s rfl rfl ?_
  refine a_eSN1 rfl lX5_110 mo_X11_sumOver (sp_X11_sumOver (by first | rfl | assumption | exact kS0 hs | exact kS1 hs | exact kS2 hs | exact kS3 hs | exact kS4 hs | exact kS5 hs | exact kS6 hs | exact kS7 hs | exact kS8 hs | exact kS9 hs | exact kS10 hs)) rfl rfl rfl rfl ?_
  refine a_iret rfl rfl ⟨rfl, rfl⟩
theorem sp_X5_standingBetween {S : aS} {I : Nat → Nat → Int32} {L : Nat → Nat → Int64} {w1 w2 t : Nat} {a np : Nat} (hs : stp a) (hp0 : I a 0 = nI np) (hn : np ≤ 6) {x y : Int32} : SpE S m_X5_standingBetween 15 [.ref a, .int x, .int y] (hp I L w1 w2 t) (some (.int (standF np (I (a + 1)) x y))) (hp I L w1 w2 t) := by
  refine SpE_of ok_X5_standingBetween rfl rfl ?_
  show AW S m_X5_standingBetween 15 _ _ 0 0 0 [some (.ref a), some (.int x), some (.int y), none, none] [] (hp I L w1 w2 t)
  refine a_s rfl rfl ?_
  refine a_s3 rfl rfl rfl rfl rfl rfl ?_
  refine a_s rfl rfl ?_
  refine a_s4 rfl rfl rfl rfl rfl rfl ?_
  refine a_forE (n := np) (fun j => [some (.ref a), some (.int x), some (.int y), some (.int (bs j (fun p => decide (x ≤ I (a + 1) p ∧ I (a + 1) p ≤ y)))), some (.int (nI j))]) (fun j => hp I L w1 w2 t) (by simp [lsub, nI_0, bs, sumF, cntF]) (rfl) ?_ (fun j hj ih5 => ?_)
  · refine a_l4 rfl rfl rfl ?_
    refine a_l0 rfl rfl rfl ?_
    refine a_geti rfl gfX5_56_5 (kS0 hs) ?_
    refine a_ic_ge rfl (fun c11 => ?_) (fun c => absurd (by rw [hp0]; exact Int32.le_refl _) c)
    refine a_l3 rfl rfl rfl ?_
    refine a_iret rfl rfl ⟨rfl, rfl⟩
  · refine a_l4 rfl rfl rfl ?_
    refine a_l0 rfl rfl rfl ?_
    refine a_geti rfl gfX5_56_5 (kS0 hs) ?_
    refine a_ic_ge rfl (fun c => absurd c (by rw [hp0]; exact nI_ge hj (by omega))) (fun c11 => ?_)
    refine a_l0 rfl rfl rfl ?_
    refine a_getq rfl gfX5_9_5 (kS0 hs) (rS1 hs) ?_
    refine a_l4 rfl rfl rfl ?_
    refine a_eSN1 rfl lX5_86 mo_X11_at (sp_X11_at (by first | rfl | assumption | exact kS0 hs | exact kS1 hs | exact kS2 hs | exact kS3 hs | exact kS4 hs | exact kS5 hs | exact kS6 hs | exact kS7 hs | exact kS8 hs | exact kS9 hs | exact kS10 hs)) rfl rfl rfl rfl ?_
    rw [atF_nI (by omega) (by decide)]
    refine a_l1 rfl rfl rfl ?_
    refine a_ic_lt rfl (fun c24 => ?_) (fun c24 => ?_)
    · refine a_i4 rfl rfl rfl ?_
      refine a_goto rfl ?_
      exact a_back ih5 (by simp_all [lsub, nI_1, bs, le_nl, -Int32.not_lt, -Int32.not_le]) rfl
    · refine a_l0 rfl rfl rfl ?_
      refine a_getq rfl gfX5_9_5 (kS0 hs) (rS1 hs) ?_
      refine a_l4 rfl rfl rfl ?_
      refine a_eSN1 rfl lX5_86 mo_X11_at (sp_X11_at (by first | rfl | assumption | exact kS0 hs | exact kS1 hs | exact kS2 hs | exact kS3 hs | exact kS4 hs | exact kS5 hs | exact kS6 hs | exact kS7 hs | exact kS8 hs | exact kS9 hs | exact kS10 hs)) rfl rfl rfl rfl ?_
      rw [atF_nI (by omega) (by decide)]
      refine a_l2 rfl rfl rfl ?_
      refine a_ic_gt rfl (fun c37 => ?_) (fun c37 => ?_)
      · refine a_i4 rfl rfl rfl ?_
        refine a_goto rfl ?_
        exact a_back ih5 (by simp_all [lsub, nI_1, bs, le_nl, -Int32.not_lt, -Int32.not_le]) rfl
      · refine a_l3 rfl rfl rfl ?_
        refine a_l4 rfl rfl rfl ?_
        refine a_eSN1 rfl lX5_97 mo_X11_bit (sp_X11_bit) rfl rfl rfl rfl ?_
        refine a_s rfl rfl ?_
        refine a_s3 rfl rfl rfl rfl rfl rfl ?_
        refine a_i4 rfl rfl rfl ?_
        refine a_goto rfl ?_
        exact a_back ih5 (by simp_all [lsub, nI_1, bs, le_nl, -Int32.not_lt, -Int32.not_le]) rfl
theorem sp_X5_areAlike {S : aS} {I : Nat → Nat → Int32} {L : Nat → Nat → Int64} {w1 w2 t : Nat} {a nd : Nat} (hs : stp a) (hd : I a 3 = nI nd) (hn : nd ≤ 12) {i k : Int32} : SpE S m_X5_areAlike 15 [.ref a, .int i, .int k] (hp I L w1 w2 t) (some (.int (bI (alikeF nd (I (a + 8)) (I (a + 4)) (I (a + 5)) i k)))) (hp I L w1 w2 t) := by
  refine SpE_of ok_X5_areAlike rfl rfl ?_
  show AW S m_X5_areAlike 15 _ _ 0 0 0 [some (.ref a), some (.int i), some (.int k)] [] (hp I L w1 w2 t)
  refine a_l0 rfl rfl rfl ?_
  refine a_l1 rfl rfl rfl ?_
  refine a_eV1 rfl lX5_90 mo_X5_isWaiting (sp_X5_isWaiting hs hd hn) rfl rfl rfl ⟨5, _, (kS0 hs), rfl, rfl⟩ rfl ?_
  refine a_if_eq rfl (fun c5 => ?_) (fun c5 => ?_)
  · refine a_s rfl rfl ?_
    refine a_zret rfl rfl rfl ⟨by simp_all [alikeF, bI_0, bI], rfl⟩
  · refine a_l0 rfl rfl rfl ?_
    refine a_l2 rfl rfl rfl ?_
    refine a_eV1 rfl lX5_90 mo_X5_isWaiting (sp_X5_isWaiting hs hd hn) rfl rfl rfl ⟨5, _, (kS0 hs), rfl, rfl⟩ rfl ?_
    refine a_if_eq rfl (fun c13 => ?_) (fun c13 => ?_)
    · refine a_s rfl rfl ?_
      refine a_zret rfl rfl rfl ⟨by simp_all [alikeF, bI_0, bI], rfl⟩
    · refine a_l0 rfl rfl rfl ?_
      refine a_getq rfl gfX5_21_5 (kS0 hs) (rS5 hs) ?_
      refine a_l1 rfl rfl rfl ?_
      refine a_eSN1 rfl lX5_86 mo_X11_at (sp_X11_at (by first | rfl | assumption | exact kS0 hs | exact kS1 hs | exact kS2 hs | exact kS3 hs | exact kS4 hs | exact kS5 hs | exact kS6 hs | exact kS7 hs | exact kS8 hs | exact kS9 hs | exact kS10 hs)) rfl rfl rfl rfl ?_
      refine a_l0 rfl rfl rfl ?_
      refine a_getq rfl gfX5_21_5 (kS0 hs) (rS5 hs) ?_
      refine a_l2 rfl rfl rfl ?_
      refine a_eSN1 rfl lX5_86 mo_X11_at (sp_X11_at (by first | rfl | assumption | exact kS0 hs | exact kS1 hs | exact kS2 hs | exact kS3 hs | exact kS4 hs | exact kS5 hs | exact kS6 hs | exact kS7 hs | exact kS8 hs | exact kS9 hs | exact kS10 hs)) rfl rfl rfl rfl ?_
      refine a_ic_ne rfl (fun c32 => ?_) (fun c32 => ?_)
      · refine a_s rfl rfl ?_
        refine a_zret rfl rfl rfl ⟨by simp_all [alikeF, bI_0, bI], rfl⟩
      · refine a_l0 rfl rfl rfl ?_
        refine a_getq rfl gfX5_24_5 (kS0 hs) (rS6 hs) ?_
        refine a_l1 rfl rfl rfl ?_
        refine a_eSN1 rfl lX5_86 mo_X11_at (sp_X11_at (by first | rfl | assumption | exact kS0 hs | exact kS1 hs | exact kS2 hs | exact kS3 hs | exact kS4 hs | exact kS5 hs | exact kS6 hs | exact kS7 hs | exact kS8 hs | exact kS9 hs | exact kS10 hs)) rfl rfl rfl rfl ?_
        refine a_l0 rfl rfl rfl ?_
        refine a_getq rfl gfX5_24_5 (kS0 hs) (rS6 hs) ?_
        refine a_l2 rfl rfl rfl ?_
        refine a_eSN1 rfl lX5_86 mo_X11_at (sp_X11_at (by first | rfl | assumption | exact kS0 hs | exact kS1 hs | exact kS2 hs | exact kS3 hs | exact kS4 hs | exact kS5 hs | exact kS6 hs | exact kS7 hs | exact kS8 hs | exact kS9 hs | exact kS10 hs)) rfl rfl rfl rfl ?_
        refine a_ic_ne rfl (fun c51 => ?_) (fun c51 => ?_)
        · refine a_s rfl rfl ?_
          refine a_zret rfl rfl rfl ⟨by simp_all [alikeF, bI_0, bI], rfl⟩
        · refine a_s rfl rfl ?_
          refine a_goto rfl ?_
          refine a_zret rfl rfl rfl ⟨by simp_all [alikeF, bI_0, bI], rfl⟩
theorem sp_X5_passesOf {S : aS} {I : Nat → Nat → Int32} {L : Nat → Nat → Int64} {w1 w2 t : Nat} {a nd : Nat} (hs : stp a) (hd : I a 3 = nI nd) (hn : nd ≤ 12) {i : Int32} : SpE S m_X5_passesOf 16 [.ref a, .int i] (hp I L w1 w2 t) (some (.int (passF nd (I (a + 8)) (I (a + 5)) (I a 13) i))) (hp I L w1 w2 t) := by
  refine SpE_of ok_X5_passesOf rfl rfl ?_
  show AW S m_X5_passesOf 16 _ _ 0 0 0 [some (.ref a), some (.int i), none] [] (hp I L w1 w2 t)
  refine a_l0 rfl rfl rfl ?_
  refine a_l1 rfl rfl rfl ?_
  refine a_eV1 rfl lX5_90 mo_X5_isWaiting (sp_X5_isWaiting hs hd hn) rfl rfl rfl ⟨5, _, (kS0 hs), rfl, rfl⟩ rfl ?_
  refine a_if_ne rfl (fun c5 => ?_) (fun c5 => ?_)
  · refine a_l0 rfl rfl rfl ?_
    refine a_s rfl rfl ?_
    refine a_eV1 rfl lX5_104 mo_X5_bitsIn (sp_X5_bitsIn hs hd hn) rfl rfl rfl ⟨5, _, (kS0 hs), rfl, rfl⟩ rfl ?_
    refine a_l0 rfl rfl rfl ?_
    refine a_l0 rfl rfl rfl ?_
    refine a_getq rfl gfX5_24_5 (kS0 hs) (rS6 hs) ?_
    refine a_l1 rfl rfl rfl ?_
    refine a_eSN1 rfl lX5_86 mo_X11_at (sp_X11_at (by first | rfl | assumption | exact kS0 hs | exact kS1 hs | exact kS2 hs | exact kS3 hs | exact kS4 hs | exact kS5 hs | exact kS6 hs | exact kS7 hs | exact kS8 hs | exact kS9 hs | exact kS10 hs)) rfl rfl rfl rfl ?_
    refine a_eV1 rfl lX5_116 mo_X5_olderThan (sp_X5_olderThan hs hd hn) rfl rfl rfl ⟨5, _, (kS0 hs), rfl, rfl⟩ rfl ?_
    refine a_s rfl rfl ?_
    refine a_s rfl rfl ?_
    refine a_s rfl rfl ?_
    refine a_s2 rfl rfl rfl rfl rfl rfl ?_
    refine a_l0 rfl rfl rfl ?_
    refine a_geti rfl gfX5_40_5 (kS0 hs) ?_
    refine a_l2 rfl rfl rfl ?_
    refine a_eS1 rfl lX5_119 mo_J6_bitCount_0f7a4 (sp_bitCount) rfl rfl rfl rfl ?_
    refine a_s rfl rfl ?_
    refine a_iret rfl rfl ⟨by simp_all [passF, bI_0], rfl⟩
  · refine a_s rfl rfl ?_
    refine a_iret rfl rfl ⟨by simp_all [passF, bI_0], rfl⟩
theorem sp_X5_canBits {S : aS} {I : Nat → Nat → Int32} {L : Nat → Nat → Int64} {w1 w2 t : Nat} {a nd : Nat} (hs : stp a) (hd : I a 3 = nI nd) (hn : nd ≤ 12) : SpE S m_X5_canBits 17 [.ref a] (hp I L w1 w2 t) (some (.int (canF nd (I (a + 8)) (I (a + 7)) (I (a + 4)) (I (a + 5)) (I a 13)))) (hp I L w1 w2 t) := by
  refine SpE_of ok_X5_canBits rfl rfl ?_
  show AW S m_X5_canBits 17 _ _ 0 0 0 [some (.ref a), none, none] [] (hp I L w1 w2 t)
  refine a_s rfl rfl ?_
  refine a_s1 rfl rfl rfl rfl rfl rfl ?_
  refine a_s rfl rfl ?_
  refine a_s2 rfl rfl rfl rfl rfl rfl ?_
  refine a_forE (n := nd) (fun j => [some (.ref a), some (.int (bs j (fun d => rdF nd (I (a + 8)) (I (a + 7)) (nI d) && decide (I (a + 4) d ≤ passF nd (I (a + 8)) (I (a + 5)) (I a 13) (nI d))))), some (.int (nI j))]) (fun j => hp I L w1 w2 t) (by simp [lsub, nI_0, bs, sumF, cntF]) (rfl) ?_ (fun j hj ih4 => ?_)
  · refine a_l2 rfl rfl rfl ?_
    refine a_l0 rfl rfl rfl ?_
    refine a_geti rfl gfX5_63_5 (kS0 hs) ?_
    refine a_ic_ge rfl (fun c9 => ?_) (fun c => absurd (by rw [hd]; exact Int32.le_refl _) c)
    refine a_l1 rfl rfl rfl ?_
    refine a_iret rfl rfl ⟨rfl, rfl⟩
  · refine a_l2 rfl rfl rfl ?_
    refine a_l0 rfl rfl rfl ?_
    refine a_geti rfl gfX5_63_5 (kS0 hs) ?_
    refine a_ic_ge rfl (fun c => absurd c (by rw [hd]; exact nI_ge hj (by omega))) (fun c9 => ?_)
    refine a_l0 rfl rfl rfl ?_
    refine a_l2 rfl rfl rfl ?_
    refine a_eV1 rfl lX5_101 mo_X5_isReady (sp_X5_isReady hs hd hn) rfl rfl rfl ⟨5, _, (kS0 hs), rfl, rfl⟩ rfl ?_
    refine a_if_eq rfl (fun c17 => ?_) (fun c17 => ?_)
    · refine a_i2 rfl rfl rfl ?_
      refine a_goto rfl ?_
      exact a_back ih4 (by simp_all [lsub, nI_1, bs, bI_0, le_nl, -Int32.not_lt, -Int32.not_le]) rfl
    · refine a_l0 rfl rfl rfl ?_
      refine a_getq rfl gfX5_21_5 (kS0 hs) (rS5 hs) ?_
      refine a_l2 rfl rfl rfl ?_
      refine a_eSN1 rfl lX5_86 mo_X11_at (sp_X11_at (by first | rfl | assumption | exact kS0 hs | exact kS1 hs | exact kS2 hs | exact kS3 hs | exact kS4 hs | exact kS5 hs | exact kS6 hs | exact kS7 hs | exact kS8 hs | exact kS9 hs | exact kS10 hs)) rfl rfl rfl rfl ?_
      rw [atF_nI (by omega) (by decide)]
      refine a_l0 rfl rfl rfl ?_
      refine a_l2 rfl rfl rfl ?_
      refine a_eV1 rfl lX5_124 mo_X5_passesOf (sp_X5_passesOf hs hd hn) rfl rfl rfl ⟨5, _, (kS0 hs), rfl, rfl⟩ rfl ?_
      refine a_ic_gt rfl (fun c33 => ?_) (fun c33 => ?_)
      · refine a_i2 rfl rfl rfl ?_
        refine a_goto rfl ?_
        exact a_back ih4 (by simp_all [lsub, nI_1, bs, bI_0, le_nl, -Int32.not_lt, -Int32.not_le]) rfl
      · refine a_l1 rfl rfl rfl ?_
        refine a_l2 rfl rfl rfl ?_
        refine a_eSN1 rfl lX5_97 mo_X11_bit (sp_X11_bit) rfl rfl rfl rfl ?_
        refine a_s rfl rfl ?_
        refine a_s1 rfl rfl rfl rfl rfl rfl ?_
        refine a_i2 rfl rfl rfl ?_
        refine a_goto rfl ?_
        exact a_back ih4 (by simp_all [lsub, nI_1, bs, bI_0, le_nl, -Int32.not_lt, -Int32.not_le]) rfl
theorem sp_X5_kerbAt {S : aS} {I : Nat → Nat → Int32} {L : Nat → Nat → Int64} {w1 w2 t : Nat} {a nd : Nat} (hs : stp a) (hd : I a 3 = nI nd) (hn : nd ≤ 12) {i k : Int32} : SpE S m_X5_kerbAt 16 [.ref a, .int i, .int k] (hp I L w1 w2 t) (some (.int (kerbF nd (I (a + 8)) (I (a + 5)) (I a 13) i k))) (hp I L w1 w2 t) := by
  refine SpE_of ok_X5_kerbAt rfl rfl ?_
  show AW S m_X5_kerbAt 16 _ _ 0 0 0 [some (.ref a), some (.int i), some (.int k), none, none] [] (hp I L w1 w2 t)
  refine a_l0 rfl rfl rfl ?_
  refine a_l1 rfl rfl rfl ?_
  refine a_eV1 rfl lX5_113 mo_X5_placeOf (sp_X5_placeOf hs hd hn) rfl rfl rfl ⟨5, _, (kS0 hs), rfl, rfl⟩ rfl ?_
  refine a_s3 rfl rfl rfl rfl rfl rfl ?_
  refine a_l3 rfl rfl rfl ?_
  refine a_s rfl rfl ?_
  refine a_ic_eq rfl (fun c8 => ?_) (fun c8 => ?_)
  · refine a_s rfl rfl ?_
    refine a_iret rfl rfl ⟨by simp_all [kerbF, le_nl, -Int32.not_lt, -Int32.not_le], rfl⟩
  · refine a_l0 rfl rfl rfl ?_
    refine a_geti rfl gfX5_40_5 (kS0 hs) ?_
    refine a_s rfl rfl ?_
    refine a_ic_ge rfl (fun c16 => ?_) (fun c16 => ?_)
    · refine a_l2 rfl rfl rfl ?_
      refine a_l0 rfl rfl rfl ?_
      refine a_geti rfl gfX5_40_5 (kS0 hs) ?_
      refine a_idiv rfl ((fun z => by rw [z] at c16; exact absurd c16 (by decide))) ?_
      refine a_l3 rfl rfl rfl ?_
      refine a_s rfl rfl ?_
      refine a_s4 rfl rfl rfl rfl rfl rfl ?_
      refine a_l4 rfl rfl rfl ?_
      refine a_if_ge rfl (fun c33 => ?_) (fun c33 => ?_)
      · refine a_l4 rfl rfl rfl ?_
        refine a_s rfl rfl ?_
        refine a_min rfl lX5_127 mj_min rfl rfl ?_
        refine a_iret rfl rfl ⟨by simp_all [kerbF, le_nl, -Int32.not_lt, -Int32.not_le], rfl⟩
      · refine a_s rfl rfl ?_
        refine a_goto rfl ?_
        refine a_iret rfl rfl ⟨by simp_all [kerbF, le_nl, -Int32.not_lt, -Int32.not_le], rfl⟩
    · refine a_s rfl rfl ?_
      refine a_iret rfl rfl ⟨by simp_all [kerbF, le_nl, -Int32.not_lt, -Int32.not_le], rfl⟩
theorem sp_X5_finish {S : aS} {I : Nat → Nat → Int32} {L : Nat → Nat → Int64} {w1 w2 t : Nat} {a : Nat} (hs : stp a) {i : Int32} : SpE S m_X5_finish 14 [.ref a, .int i] (hp I L w1 w2 t) none (hp (finF I a i) L w1 w2 t) := by
  refine SpE_of ok_X5_finish rfl rfl ?_
  show AW S m_X5_finish 14 _ _ 0 0 0 [some (.ref a), some (.int i)] [] (hp I L w1 w2 t)
  refine a_l0 rfl rfl rfl ?_
  refine a_getq rfl gfX5_21_5 (kS0 hs) (rS5 hs) ?_
  refine a_l1 rfl rfl rfl ?_
  refine a_s rfl rfl ?_
  refine a_eSN0 rfl lX5_82 mo_X11_setAt (sp_X11_setAt (by first | rfl | assumption | exact kS0 hs | exact kS1 hs | exact kS2 hs | exact kS3 hs | exact kS4 hs | exact kS5 hs | exact kS6 hs | exact kS7 hs | exact kS8 hs | exact kS9 hs | exact kS10 hs)) rfl rfl rfl rfl ?_
  refine a_l0 rfl rfl rfl ?_
  refine a_getq rfl gfX5_33_5 (kS0 hs) (rS9 hs) ?_
  refine a_l1 rfl rfl rfl ?_
  refine a_s rfl rfl ?_
  refine a_eSN0 rfl lX5_82 mo_X11_setAt (sp_X11_setAt (by first | rfl | assumption | exact kS0 hs | exact kS1 hs | exact kS2 hs | exact kS3 hs | exact kS4 hs | exact kS5 hs | exact kS6 hs | exact kS7 hs | exact kS8 hs | exact kS9 hs | exact kS10 hs)) rfl rfl rfl rfl ?_
  refine a_vret rfl rfl ⟨rfl, rfl⟩
theorem sp_X5_growOlder {S : aS} {I : Nat → Nat → Int32} {L : Nat → Nat → Int64} {w1 w2 t : Nat} {a : Nat} (hs : stp a) {i : Int32} : SpE S m_X5_growOlder 14 [.ref a, .int i] (hp I L w1 w2 t) none (hp (growF I a i) L w1 w2 t) := by
  refine SpE_of ok_X5_growOlder rfl rfl ?_
  show AW S m_X5_growOlder 14 _ _ 0 0 0 [some (.ref a), some (.int i)] [] (hp I L w1 w2 t)
  refine a_l0 rfl rfl rfl ?_
  refine a_getq rfl gfX5_24_5 (kS0 hs) (rS6 hs) ?_
  refine a_l1 rfl rfl rfl ?_
  refine a_s rfl rfl ?_
  refine a_l0 rfl rfl rfl ?_
  refine a_getq rfl gfX5_24_5 (kS0 hs) (rS6 hs) ?_
  refine a_l1 rfl rfl rfl ?_
  refine a_eSN1 rfl lX5_86 mo_X11_at (sp_X11_at (by first | rfl | assumption | exact kS0 hs | exact kS1 hs | exact kS2 hs | exact kS3 hs | exact kS4 hs | exact kS5 hs | exact kS6 hs | exact kS7 hs | exact kS8 hs | exact kS9 hs | exact kS10 hs)) rfl rfl rfl rfl ?_
  refine a_s rfl rfl ?_
  refine a_s rfl rfl ?_
  refine a_min rfl lX5_127 mj_min rfl rfl ?_
  refine a_eSN0 rfl lX5_82 mo_X11_setAt (sp_X11_setAt (by first | rfl | assumption | exact kS0 hs | exact kS1 hs | exact kS2 hs | exact kS3 hs | exact kS4 hs | exact kS5 hs | exact kS6 hs | exact kS7 hs | exact kS8 hs | exact kS9 hs | exact kS10 hs)) rfl rfl rfl rfl ?_
  refine a_vret rfl rfl ⟨rfl, rfl⟩
theorem sp_X5_draw {S : aS} {I : Nat → Nat → Int32} {L : Nat → Nat → Int64} {w1 w2 t : Nat} {a : Nat} (hs : stp a) : SpE S m_X5_draw 14 [.ref a] (hp I L w1 w2 t) (some (.int (drawV (seedF (I a 15))))) (hp (up2 I a 15 (seedF (I a 15))) L w1 w2 t) := by
  refine SpE_of ok_X5_draw rfl rfl ?_
  show AW S m_X5_draw 14 _ _ 0 0 0 [some (.ref a)] [] (hp I L w1 w2 t)
  refine a_l0 rfl rfl rfl ?_
  refine a_l0 rfl rfl rfl ?_
  refine a_geti rfl gfX5_46_5 (kS0 hs) ?_
  refine a_ldc rfl kX5_148 ?_
  refine a_s rfl rfl ?_
  refine a_s rfl rfl ?_
  refine a_s rfl rfl ?_
  refine a_puti rfl pfX5_46_5 (kS0 hs) ?_
  refine a_l0 rfl rfl rfl ?_
  refine a_geti rfl gfX5_46_5 (kS0 hs) ?_
  rw [up2_at]
  refine a_s rfl rfl ?_
  refine a_s rfl rfl ?_
  refine a_s rfl rfl ?_
  refine a_s rfl rfl ?_
  refine a_iret rfl rfl ⟨rfl, rfl⟩
end
section
/-! ===== the law itself ===== -/
def kL_0 : List aE := [(0, .new 8, 3, 0, 0), (3, .dup, 4, 0, 0), (4, .invokespecial 129, 7, 0, 0), (7, .astore_n 1, 8, 0, 0), (8, .new 130, 11, 0, 0), (11, .dup, 12, 0, 0), (12, .invokespecial 132, 15, 0, 0), (15, .astore_n 2, 16, 0, 0), (16, .iconst 1, 17, 0, 1), (17, .newarray .long, 19, 0, 0), (19, .astore_n 3, 20, 0, 0), (20, .iconst 0, 21, 0, 0), (21, .istore 4, 23, 0, 0), (23, .iload 4, 25, 0, 0), (25, .aload_n 0, 26, 0, 0), (26, .arraylength, 27, 0, 0), (27, .bipush 6, 29, 0, 6), (29, .isub, 30, 0, 0), (30, .if_icmp .gt 1945, 33, 1975, 0), (33, .aload_n 0, 34, 0, 0), (34, .iload 4, 36, 0, 0), (36, .iaload, 37, 0, 0), (37, .bipush 63, 39, 0, 63), (39, .iand, 40, 0, 0), (40, .tableswitch 1929 0 57 #[248, 321, 346, 362, 378, 391, 431, 471, 499, 527, 555, 583, 623, 663, 703, 731, 756, 769, 809, 849, 901, 914, 970, 998, 1011, 1024, 1052, 1080, 1108, 1136, 1164, 1180, 1224, 1237, 1250, 1263, 1303, 1355, 1368, 1381, 1394, 1434, 1474, 1502, 1515, 1528, 1541, 1569, 1582, 1634, 1690, 1746, 1802, 1842, 1867, 1880, 1891, 1904], 288, 0, 0)]
def kL_1 : List aE := []
def kL_2 : List aE := []
def kL_3 : List aE := []
def kL_4 : List aE := [(288, .aload_n 1, 289, 0, 0), (289, .aload_n 0, 290, 0, 0), (290, .iload 4, 292, 0, 0), (292, .iconst 1, 293, 0, 1), (293, .iadd, 294, 0, 0), (294, .iaload, 295, 0, 0), (295, .aload_n 0, 296, 0, 0), (296, .iload 4, 298, 0, 0), (298, .iconst 2, 299, 0, 2), (299, .iadd, 300, 0, 0), (300, .iaload, 301, 0, 0), (301, .aload_n 0, 302, 0, 0), (302, .iload 4, 304, 0, 0), (304, .iconst 3, 305, 0, 3), (305, .iadd, 306, 0, 0), (306, .iaload, 307, 0, 0), (307, .aload_n 0, 308, 0, 0), (308, .iload 4, 310, 0, 0), (310, .iconst 4, 311, 0, 4), (311, .iadd, 312, 0, 0), (312, .iaload, 313, 0, 0), (313, .aload_n 0, 314, 0, 0), (314, .iload 4, 316, 0, 0), (316, .iconst 5, 317, 0, 5), (317, .iadd, 318, 0, 0), (318, .iaload, 319, 0, 0), (319, .invokevirtual 133, 322, 0, 0)]
def kL_5 : List aE := [(322, .pop, 323, 0, 0), (323, .aload_n 2, 324, 0, 0), (324, .aload_n 0, 325, 0, 0), (325, .iload 4, 327, 0, 0), (327, .iconst 1, 328, 0, 1), (328, .iadd, 329, 0, 0), (329, .iaload, 330, 0, 0), (330, .aload_n 0, 331, 0, 0), (331, .iload 4, 333, 0, 0), (333, .iconst 2, 334, 0, 2), (334, .iadd, 335, 0, 0), (335, .iaload, 336, 0, 0), (336, .aload_n 0, 337, 0, 0), (337, .iload 4, 339, 0, 0), (339, .iconst 3, 340, 0, 3), (340, .iadd, 341, 0, 0), (341, .iaload, 342, 0, 0), (342, .aload_n 0, 343, 0, 0), (343, .iload 4, 345, 0, 0), (345, .iconst 4, 346, 0, 4), (346, .iadd, 347, 0, 0), (347, .iaload, 348, 0, 0), (348, .aload_n 0, 349, 0, 0), (349, .iload 4, 351, 0, 0), (351, .iconst 5, 352, 0, 5), (352, .iadd, 353, 0, 0), (353, .iaload, 354, 0, 0), (354, .invokevirtual 137, 357, 0, 0), (357, .pop, 358, 0, 0), (358, .goto 1611, 361, 1969, 0), (361, .aload_n 1, 362, 0, 0), (362, .aload_n 0, 363, 0, 0), (363, .iload 4, 365, 0, 0), (365, .iconst 1, 366, 0, 1), (366, .iadd, 367, 0, 0), (367, .iaload, 368, 0, 0), (368, .invokevirtual 138, 371, 0, 0), (371, .pop, 372, 0, 0), (372, .aload_n 2, 373, 0, 0), (373, .aload_n 0, 374, 0, 0), (374, .iload 4, 376, 0, 0), (376, .iconst 1, 377, 0, 1), (377, .iadd, 378, 0, 0), (378, .iaload, 379, 0, 0), (379, .invokevirtual 142, 382, 0, 0), (382, .pop, 383, 0, 0), (383, .goto 1586, 386, 1969, 0)]
def kL_6 : List aE := [(386, .aload_n 1, 387, 0, 0), (387, .aload_n 3, 388, 0, 0), (388, .invokestatic 143, 391, 0, 0), (391, .istore 5, 393, 0, 0), (393, .aload_n 2, 394, 0, 0), (394, .invokevirtual 148, 397, 0, 0), (397, .istore 6, 399, 0, 0), (399, .goto 1570, 402, 1969, 0), (402, .aload_n 1, 403, 0, 0), (403, .aload_n 3, 404, 0, 0), (404, .invokestatic 149, 407, 0, 0), (407, .istore 5, 409, 0, 0), (409, .aload_n 2, 410, 0, 0), (410, .invokevirtual 151, 413, 0, 0), (413, .istore 6, 415, 0, 0), (415, .goto 1554, 418, 1969, 0), (418, .aload_n 1, 419, 0, 0), (419, .invokevirtual 152, 422, 0, 0), (422, .pop, 423, 0, 0), (423, .aload_n 2, 424, 0, 0), (424, .invokevirtual 155, 427, 0, 0), (427, .pop, 428, 0, 0), (428, .goto 1541, 431, 1969, 0), (431, .aload_n 1, 432, 0, 0), (432, .aload_n 0, 433, 0, 0), (433, .iload 4, 435, 0, 0), (435, .iconst 1, 436, 0, 1), (436, .iadd, 437, 0, 0), (437, .iaload, 438, 0, 0), (438, .aload_n 0, 439, 0, 0), (439, .iload 4, 441, 0, 0), (441, .iconst 2, 442, 0, 2), (442, .iadd, 443, 0, 0), (443, .iaload, 444, 0, 0), (444, .aload_n 3, 445, 0, 0), (445, .invokestatic 156, 448, 0, 0)]
def kL_7 : List aE := [(448, .istore 5, 450, 0, 0), (450, .aload_n 2, 451, 0, 0), (451, .aload_n 0, 452, 0, 0), (452, .iload 4, 454, 0, 0), (454, .iconst 1, 455, 0, 1), (455, .iadd, 456, 0, 0), (456, .iaload, 457, 0, 0), (457, .aload_n 0, 458, 0, 0), (458, .iload 4, 460, 0, 0), (460, .iconst 2, 461, 0, 2), (461, .iadd, 462, 0, 0), (462, .iaload, 463, 0, 0), (463, .invokevirtual 159, 466, 0, 0), (466, .istore 6, 468, 0, 0), (468, .goto 1501, 471, 1969, 0), (471, .aload_n 1, 472, 0, 0), (472, .aload_n 0, 473, 0, 0), (473, .iload 4, 475, 0, 0), (475, .iconst 1, 476, 0, 1), (476, .iadd, 477, 0, 0), (477, .iaload, 478, 0, 0), (478, .aload_n 0, 479, 0, 0), (479, .iload 4, 481, 0, 0), (481, .iconst 2, 482, 0, 2), (482, .iadd, 483, 0, 0), (483, .iaload, 484, 0, 0), (484, .aload_n 3, 485, 0, 0), (485, .invokestatic 160, 488, 0, 0), (488, .istore 5, 490, 0, 0), (490, .aload_n 2, 491, 0, 0), (491, .aload_n 0, 492, 0, 0), (492, .iload 4, 494, 0, 0), (494, .iconst 1, 495, 0, 1), (495, .iadd, 496, 0, 0), (496, .iaload, 497, 0, 0), (497, .aload_n 0, 498, 0, 0), (498, .iload 4, 500, 0, 0), (500, .iconst 2, 501, 0, 2), (501, .iadd, 502, 0, 0), (502, .iaload, 503, 0, 0), (503, .invokevirtual 162, 506, 0, 0), (506, .istore 6, 508, 0, 0), (508, .goto 1461, 511, 1969, 0), (511, .aload_n 1, 512, 0, 0)]
def kL_8 : List aE := [(512, .aload_n 0, 513, 0, 0), (513, .iload 4, 515, 0, 0), (515, .iconst 1, 516, 0, 1), (516, .iadd, 517, 0, 0), (517, .iaload, 518, 0, 0), (518, .aload_n 3, 519, 0, 0), (519, .invokestatic 163, 522, 0, 0), (522, .istore 5, 524, 0, 0), (524, .aload_n 2, 525, 0, 0), (525, .aload_n 0, 526, 0, 0), (526, .iload 4, 528, 0, 0), (528, .iconst 1, 529, 0, 1), (529, .iadd, 530, 0, 0), (530, .iaload, 531, 0, 0), (531, .invokevirtual 166, 534, 0, 0), (534, .istore 6, 536, 0, 0), (536, .goto 1433, 539, 1969, 0), (539, .aload_n 1, 540, 0, 0), (540, .aload_n 0, 541, 0, 0), (541, .iload 4, 543, 0, 0), (543, .iconst 1, 544, 0, 1), (544, .iadd, 545, 0, 0), (545, .iaload, 546, 0, 0), (546, .aload_n 3, 547, 0, 0), (547, .invokestatic 167, 550, 0, 0), (550, .istore 5, 552, 0, 0), (552, .aload_n 2, 553, 0, 0), (553, .aload_n 0, 554, 0, 0), (554, .iload 4, 556, 0, 0), (556, .iconst 1, 557, 0, 1), (557, .iadd, 558, 0, 0), (558, .iaload, 559, 0, 0), (559, .invokevirtual 169, 562, 0, 0), (562, .istore 6, 564, 0, 0), (564, .goto 1405, 567, 1969, 0), (567, .aload_n 1, 568, 0, 0), (568, .aload_n 0, 569, 0, 0), (569, .iload 4, 571, 0, 0), (571, .iconst 1, 572, 0, 1), (572, .iadd, 573, 0, 0), (573, .iaload, 574, 0, 0), (574, .aload_n 3, 575, 0, 0), (575, .invokestatic 170, 578, 0, 0)]
def kL_9 : List aE := [(578, .istore 5, 580, 0, 0), (580, .aload_n 2, 581, 0, 0), (581, .aload_n 0, 582, 0, 0), (582, .iload 4, 584, 0, 0), (584, .iconst 1, 585, 0, 1), (585, .iadd, 586, 0, 0), (586, .iaload, 587, 0, 0), (587, .invokevirtual 172, 590, 0, 0), (590, .istore 6, 592, 0, 0), (592, .goto 1377, 595, 1969, 0), (595, .aload_n 1, 596, 0, 0), (596, .aload_n 0, 597, 0, 0), (597, .iload 4, 599, 0, 0), (599, .iconst 1, 600, 0, 1), (600, .iadd, 601, 0, 0), (601, .iaload, 602, 0, 0), (602, .aload_n 3, 603, 0, 0), (603, .invokestatic 173, 606, 0, 0), (606, .istore 5, 608, 0, 0), (608, .aload_n 2, 609, 0, 0), (609, .aload_n 0, 610, 0, 0), (610, .iload 4, 612, 0, 0), (612, .iconst 1, 613, 0, 1), (613, .iadd, 614, 0, 0), (614, .iaload, 615, 0, 0), (615, .invokevirtual 175, 618, 0, 0), (618, .istore 6, 620, 0, 0), (620, .goto 1349, 623, 1969, 0), (623, .aload_n 1, 624, 0, 0), (624, .aload_n 0, 625, 0, 0), (625, .iload 4, 627, 0, 0), (627, .iconst 1, 628, 0, 1), (628, .iadd, 629, 0, 0), (629, .iaload, 630, 0, 0), (630, .aload_n 0, 631, 0, 0), (631, .iload 4, 633, 0, 0), (633, .iconst 2, 634, 0, 2), (634, .iadd, 635, 0, 0), (635, .iaload, 636, 0, 0), (636, .aload_n 3, 637, 0, 0), (637, .invokestatic 176, 640, 0, 0)]
def kL_10 : List aE := [(640, .istore 5, 642, 0, 0), (642, .aload_n 2, 643, 0, 0), (643, .aload_n 0, 644, 0, 0), (644, .iload 4, 646, 0, 0), (646, .iconst 1, 647, 0, 1), (647, .iadd, 648, 0, 0), (648, .iaload, 649, 0, 0), (649, .aload_n 0, 650, 0, 0), (650, .iload 4, 652, 0, 0), (652, .iconst 2, 653, 0, 2), (653, .iadd, 654, 0, 0), (654, .iaload, 655, 0, 0), (655, .invokevirtual 178, 658, 0, 0), (658, .istore 6, 660, 0, 0), (660, .goto 1309, 663, 1969, 0), (663, .aload_n 1, 664, 0, 0), (664, .aload_n 0, 665, 0, 0), (665, .iload 4, 667, 0, 0), (667, .iconst 1, 668, 0, 1), (668, .iadd, 669, 0, 0), (669, .iaload, 670, 0, 0), (670, .aload_n 0, 671, 0, 0), (671, .iload 4, 673, 0, 0), (673, .iconst 2, 674, 0, 2), (674, .iadd, 675, 0, 0), (675, .iaload, 676, 0, 0), (676, .aload_n 3, 677, 0, 0), (677, .invokestatic 179, 680, 0, 0), (680, .istore 5, 682, 0, 0), (682, .aload_n 2, 683, 0, 0), (683, .aload_n 0, 684, 0, 0), (684, .iload 4, 686, 0, 0), (686, .iconst 1, 687, 0, 1), (687, .iadd, 688, 0, 0), (688, .iaload, 689, 0, 0), (689, .aload_n 0, 690, 0, 0), (690, .iload 4, 692, 0, 0), (692, .iconst 2, 693, 0, 2), (693, .iadd, 694, 0, 0), (694, .iaload, 695, 0, 0), (695, .invokevirtual 181, 698, 0, 0), (698, .istore 6, 700, 0, 0), (700, .goto 1269, 703, 1969, 0), (703, .aload_n 1, 704, 0, 0)]
def kL_11 : List aE := [(704, .aload_n 0, 705, 0, 0), (705, .iload 4, 707, 0, 0), (707, .iconst 1, 708, 0, 1), (708, .iadd, 709, 0, 0), (709, .iaload, 710, 0, 0), (710, .aload_n 0, 711, 0, 0), (711, .iload 4, 713, 0, 0), (713, .iconst 2, 714, 0, 2), (714, .iadd, 715, 0, 0), (715, .iaload, 716, 0, 0), (716, .aload_n 3, 717, 0, 0), (717, .invokestatic 182, 720, 0, 0), (720, .istore 5, 722, 0, 0), (722, .aload_n 2, 723, 0, 0), (723, .aload_n 0, 724, 0, 0), (724, .iload 4, 726, 0, 0), (726, .iconst 1, 727, 0, 1), (727, .iadd, 728, 0, 0), (728, .iaload, 729, 0, 0), (729, .aload_n 0, 730, 0, 0), (730, .iload 4, 732, 0, 0), (732, .iconst 2, 733, 0, 2), (733, .iadd, 734, 0, 0), (734, .iaload, 735, 0, 0), (735, .invokevirtual 184, 738, 0, 0), (738, .istore 6, 740, 0, 0), (740, .goto 1229, 743, 1969, 0), (743, .aload_n 1, 744, 0, 0), (744, .aload_n 0, 745, 0, 0), (745, .iload 4, 747, 0, 0), (747, .iconst 1, 748, 0, 1), (748, .iadd, 749, 0, 0), (749, .iaload, 750, 0, 0), (750, .aload_n 3, 751, 0, 0), (751, .invokestatic 185, 754, 0, 0), (754, .istore 5, 756, 0, 0), (756, .aload_n 2, 757, 0, 0), (757, .aload_n 0, 758, 0, 0), (758, .iload 4, 760, 0, 0), (760, .iconst 1, 761, 0, 1), (761, .iadd, 762, 0, 0), (762, .iaload, 763, 0, 0), (763, .invokevirtual 187, 766, 0, 0), (766, .istore 6, 768, 0, 0)]
def kL_12 : List aE := [(768, .goto 1201, 771, 1969, 0), (771, .aload_n 1, 772, 0, 0), (772, .aload_n 0, 773, 0, 0), (773, .iload 4, 775, 0, 0), (775, .iconst 1, 776, 0, 1), (776, .iadd, 777, 0, 0), (777, .iaload, 778, 0, 0), (778, .invokevirtual 188, 781, 0, 0), (781, .pop, 782, 0, 0), (782, .aload_n 2, 783, 0, 0), (783, .aload_n 0, 784, 0, 0), (784, .iload 4, 786, 0, 0), (786, .iconst 1, 787, 0, 1), (787, .iadd, 788, 0, 0), (788, .iaload, 789, 0, 0), (789, .invokevirtual 191, 792, 0, 0), (792, .pop, 793, 0, 0), (793, .goto 1176, 796, 1969, 0), (796, .aload_n 1, 797, 0, 0), (797, .invokevirtual 192, 800, 0, 0), (800, .pop, 801, 0, 0), (801, .aload_n 2, 802, 0, 0), (802, .invokevirtual 195, 805, 0, 0), (805, .pop, 806, 0, 0), (806, .goto 1163, 809, 1969, 0), (809, .aload_n 1, 810, 0, 0), (810, .aload_n 0, 811, 0, 0), (811, .iload 4, 813, 0, 0), (813, .iconst 1, 814, 0, 1), (814, .iadd, 815, 0, 0), (815, .iaload, 816, 0, 0), (816, .aload_n 0, 817, 0, 0), (817, .iload 4, 819, 0, 0), (819, .iconst 2, 820, 0, 2), (820, .iadd, 821, 0, 0), (821, .iaload, 822, 0, 0), (822, .aload_n 3, 823, 0, 0), (823, .invokestatic 196, 826, 0, 0), (826, .istore 5, 828, 0, 0), (828, .aload_n 2, 829, 0, 0), (829, .aload_n 0, 830, 0, 0), (830, .iload 4, 832, 0, 0)]
def kL_13 : List aE := [(832, .iconst 1, 833, 0, 1), (833, .iadd, 834, 0, 0), (834, .iaload, 835, 0, 0), (835, .aload_n 0, 836, 0, 0), (836, .iload 4, 838, 0, 0), (838, .iconst 2, 839, 0, 2), (839, .iadd, 840, 0, 0), (840, .iaload, 841, 0, 0), (841, .invokevirtual 198, 844, 0, 0), (844, .istore 6, 846, 0, 0), (846, .goto 1123, 849, 1969, 0), (849, .aload_n 1, 850, 0, 0), (850, .aload_n 0, 851, 0, 0), (851, .iload 4, 853, 0, 0), (853, .iconst 1, 854, 0, 1), (854, .iadd, 855, 0, 0), (855, .iaload, 856, 0, 0), (856, .aload_n 0, 857, 0, 0), (857, .iload 4, 859, 0, 0), (859, .iconst 2, 860, 0, 2), (860, .iadd, 861, 0, 0), (861, .iaload, 862, 0, 0), (862, .aload_n 3, 863, 0, 0), (863, .invokestatic 199, 866, 0, 0), (866, .istore 5, 868, 0, 0), (868, .aload_n 2, 869, 0, 0), (869, .aload_n 0, 870, 0, 0), (870, .iload 4, 872, 0, 0), (872, .iconst 1, 873, 0, 1), (873, .iadd, 874, 0, 0), (874, .iaload, 875, 0, 0), (875, .aload_n 0, 876, 0, 0), (876, .iload 4, 878, 0, 0), (878, .iconst 2, 879, 0, 2), (879, .iadd, 880, 0, 0), (880, .iaload, 881, 0, 0), (881, .invokevirtual 201, 884, 0, 0), (884, .istore 6, 886, 0, 0), (886, .goto 1083, 889, 1969, 0), (889, .aload_n 1, 890, 0, 0), (890, .aload_n 0, 891, 0, 0), (891, .iload 4, 893, 0, 0), (893, .iconst 1, 894, 0, 1), (894, .iadd, 895, 0, 0), (895, .iaload, 896, 0, 0)]
def kL_14 : List aE := [(896, .aload_n 0, 897, 0, 0), (897, .iload 4, 899, 0, 0), (899, .iconst 2, 900, 0, 2), (900, .iadd, 901, 0, 0), (901, .iaload, 902, 0, 0), (902, .aload_n 0, 903, 0, 0), (903, .iload 4, 905, 0, 0), (905, .iconst 3, 906, 0, 3), (906, .iadd, 907, 0, 0), (907, .iaload, 908, 0, 0), (908, .aload_n 3, 909, 0, 0), (909, .invokestatic 202, 912, 0, 0), (912, .istore 5, 914, 0, 0), (914, .aload_n 2, 915, 0, 0), (915, .aload_n 0, 916, 0, 0), (916, .iload 4, 918, 0, 0), (918, .iconst 1, 919, 0, 1), (919, .iadd, 920, 0, 0), (920, .iaload, 921, 0, 0), (921, .aload_n 0, 922, 0, 0), (922, .iload 4, 924, 0, 0), (924, .iconst 2, 925, 0, 2), (925, .iadd, 926, 0, 0), (926, .iaload, 927, 0, 0), (927, .aload_n 0, 928, 0, 0), (928, .iload 4, 930, 0, 0), (930, .iconst 3, 931, 0, 3), (931, .iadd, 932, 0, 0), (932, .iaload, 933, 0, 0), (933, .invokevirtual 205, 936, 0, 0), (936, .istore 6, 938, 0, 0), (938, .goto 1031, 941, 1969, 0), (941, .aload_n 1, 942, 0, 0), (942, .invokevirtual 206, 945, 0, 0), (945, .pop, 946, 0, 0), (946, .aload_n 2, 947, 0, 0), (947, .invokevirtual 209, 950, 0, 0), (950, .pop, 951, 0, 0), (951, .goto 1018, 954, 1969, 0), (954, .aload_n 1, 955, 0, 0), (955, .aload_n 0, 956, 0, 0), (956, .iload 4, 958, 0, 0), (958, .iconst 1, 959, 0, 1), (959, .iadd, 960, 0, 0)]
def kL_15 : List aE := [(960, .iaload, 961, 0, 0), (961, .aload_n 0, 962, 0, 0), (962, .iload 4, 964, 0, 0), (964, .iconst 2, 965, 0, 2), (965, .iadd, 966, 0, 0), (966, .iaload, 967, 0, 0), (967, .ifCond .eq 7, 970, 974, 0), (970, .iconst 1, 971, 0, 1), (971, .goto 4, 974, 975, 0), (974, .iconst 0, 975, 0, 0), (975, .aload_n 3, 976, 0, 0), (976, .invokestatic 210, 979, 0, 0), (979, .istore 5, 981, 0, 0), (981, .aload_n 2, 982, 0, 0), (982, .aload_n 0, 983, 0, 0), (983, .iload 4, 985, 0, 0), (985, .iconst 1, 986, 0, 1), (986, .iadd, 987, 0, 0), (987, .iaload, 988, 0, 0), (988, .aload_n 0, 989, 0, 0), (989, .iload 4, 991, 0, 0), (991, .iconst 2, 992, 0, 2), (992, .iadd, 993, 0, 0), (993, .iaload, 994, 0, 0), (994, .ifCond .eq 7, 997, 1001, 0), (997, .iconst 1, 998, 0, 1), (998, .goto 4, 1001, 1002, 0), (1001, .iconst 0, 1002, 0, 0), (1002, .invokevirtual 213, 1005, 0, 0), (1005, .istore 6, 1007, 0, 0), (1007, .goto 962, 1010, 1969, 0), (1010, .aload_n 1, 1011, 0, 0), (1011, .aload_n 0, 1012, 0, 0), (1012, .iload 4, 1014, 0, 0), (1014, .iconst 1, 1015, 0, 1), (1015, .iadd, 1016, 0, 0), (1016, .iaload, 1017, 0, 0), (1017, .aload_n 3, 1018, 0, 0), (1018, .invokestatic 214, 1021, 0, 0), (1021, .istore 5, 1023, 0, 0), (1023, .aload_n 2, 1024, 0, 0)]
def kL_16 : List aE := [(1024, .aload_n 0, 1025, 0, 0), (1025, .iload 4, 1027, 0, 0), (1027, .iconst 1, 1028, 0, 1), (1028, .iadd, 1029, 0, 0), (1029, .iaload, 1030, 0, 0), (1030, .invokevirtual 216, 1033, 0, 0), (1033, .istore 6, 1035, 0, 0), (1035, .goto 934, 1038, 1969, 0), (1038, .aload_n 1, 1039, 0, 0), (1039, .invokevirtual 217, 1042, 0, 0), (1042, .pop, 1043, 0, 0), (1043, .aload_n 2, 1044, 0, 0), (1044, .invokevirtual 220, 1047, 0, 0), (1047, .pop, 1048, 0, 0), (1048, .goto 921, 1051, 1969, 0), (1051, .aload_n 1, 1052, 0, 0), (1052, .invokevirtual 221, 1055, 0, 0), (1055, .pop, 1056, 0, 0), (1056, .aload_n 2, 1057, 0, 0), (1057, .invokevirtual 224, 1060, 0, 0), (1060, .pop, 1061, 0, 0), (1061, .goto 908, 1064, 1969, 0), (1064, .aload_n 1, 1065, 0, 0), (1065, .aload_n 0, 1066, 0, 0), (1066, .iload 4, 1068, 0, 0), (1068, .iconst 1, 1069, 0, 1), (1069, .iadd, 1070, 0, 0), (1070, .iaload, 1071, 0, 0), (1071, .aload_n 3, 1072, 0, 0), (1072, .invokestatic 225, 1075, 0, 0), (1075, .istore 5, 1077, 0, 0), (1077, .aload_n 2, 1078, 0, 0), (1078, .aload_n 0, 1079, 0, 0), (1079, .iload 4, 1081, 0, 0), (1081, .iconst 1, 1082, 0, 1), (1082, .iadd, 1083, 0, 0), (1083, .iaload, 1084, 0, 0), (1084, .invokevirtual 227, 1087, 0, 0), (1087, .istore 6, 1089, 0, 0)]
def kL_17 : List aE := [(1089, .goto 880, 1092, 1969, 0), (1092, .aload_n 1, 1093, 0, 0), (1093, .aload_n 0, 1094, 0, 0), (1094, .iload 4, 1096, 0, 0), (1096, .iconst 1, 1097, 0, 1), (1097, .iadd, 1098, 0, 0), (1098, .iaload, 1099, 0, 0), (1099, .aload_n 3, 1100, 0, 0), (1100, .invokestatic 228, 1103, 0, 0), (1103, .istore 5, 1105, 0, 0), (1105, .aload_n 2, 1106, 0, 0), (1106, .aload_n 0, 1107, 0, 0), (1107, .iload 4, 1109, 0, 0), (1109, .iconst 1, 1110, 0, 1), (1110, .iadd, 1111, 0, 0), (1111, .iaload, 1112, 0, 0), (1112, .invokevirtual 230, 1115, 0, 0), (1115, .istore 6, 1117, 0, 0), (1117, .goto 852, 1120, 1969, 0), (1120, .aload_n 1, 1121, 0, 0), (1121, .aload_n 0, 1122, 0, 0), (1122, .iload 4, 1124, 0, 0), (1124, .iconst 1, 1125, 0, 1), (1125, .iadd, 1126, 0, 0), (1126, .iaload, 1127, 0, 0), (1127, .aload_n 3, 1128, 0, 0), (1128, .invokestatic 231, 1131, 0, 0), (1131, .istore 5, 1133, 0, 0), (1133, .aload_n 2, 1134, 0, 0), (1134, .aload_n 0, 1135, 0, 0), (1135, .iload 4, 1137, 0, 0), (1137, .iconst 1, 1138, 0, 1), (1138, .iadd, 1139, 0, 0), (1139, .iaload, 1140, 0, 0), (1140, .invokevirtual 233, 1143, 0, 0), (1143, .istore 6, 1145, 0, 0), (1145, .goto 824, 1148, 1969, 0), (1148, .aload_n 1, 1149, 0, 0), (1149, .aload_n 0, 1150, 0, 0), (1150, .iload 4, 1152, 0, 0)]
def kL_18 : List aE := [(1152, .iconst 1, 1153, 0, 1), (1153, .iadd, 1154, 0, 0), (1154, .iaload, 1155, 0, 0), (1155, .aload_n 3, 1156, 0, 0), (1156, .invokestatic 234, 1159, 0, 0), (1159, .istore 5, 1161, 0, 0), (1161, .aload_n 2, 1162, 0, 0), (1162, .aload_n 0, 1163, 0, 0), (1163, .iload 4, 1165, 0, 0), (1165, .iconst 1, 1166, 0, 1), (1166, .iadd, 1167, 0, 0), (1167, .iaload, 1168, 0, 0), (1168, .invokevirtual 236, 1171, 0, 0), (1171, .istore 6, 1173, 0, 0), (1173, .goto 796, 1176, 1969, 0), (1176, .aload_n 1, 1177, 0, 0), (1177, .aload_n 0, 1178, 0, 0), (1178, .iload 4, 1180, 0, 0), (1180, .iconst 1, 1181, 0, 1), (1181, .iadd, 1182, 0, 0), (1182, .iaload, 1183, 0, 0), (1183, .aload_n 3, 1184, 0, 0), (1184, .invokestatic 237, 1187, 0, 0), (1187, .istore 5, 1189, 0, 0), (1189, .aload_n 2, 1190, 0, 0), (1190, .aload_n 0, 1191, 0, 0), (1191, .iload 4, 1193, 0, 0), (1193, .iconst 1, 1194, 0, 1), (1194, .iadd, 1195, 0, 0), (1195, .iaload, 1196, 0, 0), (1196, .invokevirtual 239, 1199, 0, 0), (1199, .istore 6, 1201, 0, 0), (1201, .goto 768, 1204, 1969, 0), (1204, .aload_n 1, 1205, 0, 0), (1205, .aload_n 3, 1206, 0, 0), (1206, .invokestatic 240, 1209, 0, 0), (1209, .istore 5, 1211, 0, 0), (1211, .aload_n 2, 1212, 0, 0), (1212, .invokevirtual 242, 1215, 0, 0), (1215, .istore 6, 1217, 0, 0)]
def kL_19 : List aE := [(1217, .goto 752, 1220, 1969, 0), (1220, .aload_n 1, 1221, 0, 0), (1221, .aload_n 3, 1222, 0, 0), (1222, .invokestatic 243, 1225, 0, 0), (1225, .istore 5, 1227, 0, 0), (1227, .aload_n 2, 1228, 0, 0), (1228, .invokevirtual 245, 1231, 0, 0), (1231, .istore 6, 1233, 0, 0), (1233, .aload_n 2, 1234, 0, 0), (1234, .invokevirtual 246, 1237, 0, 0), (1237, .iload 5, 1239, 0, 0), (1239, .if_icmp .eq 5, 1242, 1244, 0), (1242, .iconst 0, 1243, 0, 0), (1243, .ireturn, 1244, 0, 0), (1244, .iload 5, 1246, 0, 0), (1246, .ifCond .ne 15, 1249, 1261, 0), (1249, .aload_n 3, 1250, 0, 0), (1250, .iconst 0, 1251, 0, 0), (1251, .laload, 1252, 0, 0), (1252, .iload 6, 1254, 0, 0), (1254, .i2l, 1255, 0, 0), (1255, .lcmp, 1256, 0, 0), (1256, .ifCond .eq 5, 1259, 1261, 0), (1259, .iconst 0, 1260, 0, 0), (1260, .ireturn, 1261, 0, 0), (1261, .goto 708, 1264, 1969, 0), (1264, .aload_n 1, 1265, 0, 0), (1265, .invokevirtual 249, 1268, 0, 0), (1268, .pop, 1269, 0, 0), (1269, .aload_n 2, 1270, 0, 0), (1270, .invokevirtual 252, 1273, 0, 0), (1273, .pop, 1274, 0, 0), (1274, .goto 695, 1277, 1969, 0), (1277, .aload_n 1, 1278, 0, 0), (1278, .invokevirtual 253, 1281, 0, 0)]
def kL_20 : List aE := [(1281, .pop, 1282, 0, 0), (1282, .aload_n 2, 1283, 0, 0), (1283, .invokevirtual 256, 1286, 0, 0), (1286, .pop, 1287, 0, 0), (1287, .goto 682, 1290, 1969, 0), (1290, .aload_n 1, 1291, 0, 0), (1291, .invokevirtual 257, 1294, 0, 0), (1294, .pop, 1295, 0, 0), (1295, .aload_n 2, 1296, 0, 0), (1296, .invokevirtual 260, 1299, 0, 0), (1299, .pop, 1300, 0, 0), (1300, .goto 669, 1303, 1969, 0), (1303, .aload_n 1, 1304, 0, 0), (1304, .aload_n 0, 1305, 0, 0), (1305, .iload 4, 1307, 0, 0), (1307, .iconst 1, 1308, 0, 1), (1308, .iadd, 1309, 0, 0), (1309, .iaload, 1310, 0, 0), (1310, .aload_n 0, 1311, 0, 0), (1311, .iload 4, 1313, 0, 0), (1313, .iconst 2, 1314, 0, 2), (1314, .iadd, 1315, 0, 0), (1315, .iaload, 1316, 0, 0), (1316, .aload_n 3, 1317, 0, 0), (1317, .invokestatic 261, 1320, 0, 0), (1320, .istore 5, 1322, 0, 0), (1322, .aload_n 2, 1323, 0, 0), (1323, .aload_n 0, 1324, 0, 0), (1324, .iload 4, 1326, 0, 0), (1326, .iconst 1, 1327, 0, 1), (1327, .iadd, 1328, 0, 0), (1328, .iaload, 1329, 0, 0), (1329, .aload_n 0, 1330, 0, 0), (1330, .iload 4, 1332, 0, 0), (1332, .iconst 2, 1333, 0, 2), (1333, .iadd, 1334, 0, 0), (1334, .iaload, 1335, 0, 0), (1335, .invokevirtual 263, 1338, 0, 0), (1338, .istore 6, 1340, 0, 0), (1340, .goto 629, 1343, 1969, 0), (1343, .aload_n 1, 1344, 0, 0)]
def kL_21 : List aE := [(1344, .aload_n 0, 1345, 0, 0), (1345, .iload 4, 1347, 0, 0), (1347, .iconst 1, 1348, 0, 1), (1348, .iadd, 1349, 0, 0), (1349, .iaload, 1350, 0, 0), (1350, .aload_n 0, 1351, 0, 0), (1351, .iload 4, 1353, 0, 0), (1353, .iconst 2, 1354, 0, 2), (1354, .iadd, 1355, 0, 0), (1355, .iaload, 1356, 0, 0), (1356, .aload_n 0, 1357, 0, 0), (1357, .iload 4, 1359, 0, 0), (1359, .iconst 3, 1360, 0, 3), (1360, .iadd, 1361, 0, 0), (1361, .iaload, 1362, 0, 0), (1362, .aload_n 3, 1363, 0, 0), (1363, .invokestatic 264, 1366, 0, 0), (1366, .istore 5, 1368, 0, 0), (1368, .aload_n 2, 1369, 0, 0), (1369, .aload_n 0, 1370, 0, 0), (1370, .iload 4, 1372, 0, 0), (1372, .iconst 1, 1373, 0, 1), (1373, .iadd, 1374, 0, 0), (1374, .iaload, 1375, 0, 0), (1375, .aload_n 0, 1376, 0, 0), (1376, .iload 4, 1378, 0, 0), (1378, .iconst 2, 1379, 0, 2), (1379, .iadd, 1380, 0, 0), (1380, .iaload, 1381, 0, 0), (1381, .aload_n 0, 1382, 0, 0), (1382, .iload 4, 1384, 0, 0), (1384, .iconst 3, 1385, 0, 3), (1385, .iadd, 1386, 0, 0), (1386, .iaload, 1387, 0, 0), (1387, .invokevirtual 266, 1390, 0, 0), (1390, .istore 6, 1392, 0, 0), (1392, .goto 577, 1395, 1969, 0), (1395, .aload_n 1, 1396, 0, 0), (1396, .invokevirtual 267, 1399, 0, 0), (1399, .pop, 1400, 0, 0), (1400, .aload_n 2, 1401, 0, 0), (1401, .invokevirtual 270, 1404, 0, 0), (1404, .pop, 1405, 0, 0), (1405, .goto 564, 1408, 1969, 0)]
def kL_22 : List aE := [(1408, .aload_n 1, 1409, 0, 0), (1409, .invokevirtual 271, 1412, 0, 0), (1412, .pop, 1413, 0, 0), (1413, .aload_n 2, 1414, 0, 0), (1414, .invokevirtual 274, 1417, 0, 0), (1417, .pop, 1418, 0, 0), (1418, .goto 551, 1421, 1969, 0), (1421, .aload_n 1, 1422, 0, 0), (1422, .invokevirtual 275, 1425, 0, 0), (1425, .pop, 1426, 0, 0), (1426, .aload_n 2, 1427, 0, 0), (1427, .invokevirtual 278, 1430, 0, 0), (1430, .pop, 1431, 0, 0), (1431, .goto 538, 1434, 1969, 0), (1434, .aload_n 1, 1435, 0, 0), (1435, .aload_n 0, 1436, 0, 0), (1436, .iload 4, 1438, 0, 0), (1438, .iconst 1, 1439, 0, 1), (1439, .iadd, 1440, 0, 0), (1440, .iaload, 1441, 0, 0), (1441, .aload_n 0, 1442, 0, 0), (1442, .iload 4, 1444, 0, 0), (1444, .iconst 2, 1445, 0, 2), (1445, .iadd, 1446, 0, 0), (1446, .iaload, 1447, 0, 0), (1447, .aload_n 3, 1448, 0, 0), (1448, .invokestatic 279, 1451, 0, 0), (1451, .istore 5, 1453, 0, 0), (1453, .aload_n 2, 1454, 0, 0), (1454, .aload_n 0, 1455, 0, 0), (1455, .iload 4, 1457, 0, 0), (1457, .iconst 1, 1458, 0, 1), (1458, .iadd, 1459, 0, 0), (1459, .iaload, 1460, 0, 0), (1460, .aload_n 0, 1461, 0, 0), (1461, .iload 4, 1463, 0, 0), (1463, .iconst 2, 1464, 0, 2), (1464, .iadd, 1465, 0, 0), (1465, .iaload, 1466, 0, 0), (1466, .invokevirtual 281, 1469, 0, 0), (1469, .istore 6, 1471, 0, 0), (1471, .goto 498, 1474, 1969, 0)]
def kL_23 : List aE := [(1474, .aload_n 1, 1475, 0, 0), (1475, .aload_n 0, 1476, 0, 0), (1476, .iload 4, 1478, 0, 0), (1478, .iconst 1, 1479, 0, 1), (1479, .iadd, 1480, 0, 0), (1480, .iaload, 1481, 0, 0), (1481, .aload_n 0, 1482, 0, 0), (1482, .iload 4, 1484, 0, 0), (1484, .iconst 2, 1485, 0, 2), (1485, .iadd, 1486, 0, 0), (1486, .iaload, 1487, 0, 0), (1487, .aload_n 3, 1488, 0, 0), (1488, .invokestatic 282, 1491, 0, 0), (1491, .istore 5, 1493, 0, 0), (1493, .aload_n 2, 1494, 0, 0), (1494, .aload_n 0, 1495, 0, 0), (1495, .iload 4, 1497, 0, 0), (1497, .iconst 1, 1498, 0, 1), (1498, .iadd, 1499, 0, 0), (1499, .iaload, 1500, 0, 0), (1500, .aload_n 0, 1501, 0, 0), (1501, .iload 4, 1503, 0, 0), (1503, .iconst 2, 1504, 0, 2), (1504, .iadd, 1505, 0, 0), (1505, .iaload, 1506, 0, 0), (1506, .invokevirtual 284, 1509, 0, 0), (1509, .istore 6, 1511, 0, 0), (1511, .goto 458, 1514, 1969, 0), (1514, .aload_n 1, 1515, 0, 0), (1515, .aload_n 0, 1516, 0, 0), (1516, .iload 4, 1518, 0, 0), (1518, .iconst 1, 1519, 0, 1), (1519, .iadd, 1520, 0, 0), (1520, .iaload, 1521, 0, 0), (1521, .aload_n 3, 1522, 0, 0), (1522, .invokestatic 285, 1525, 0, 0), (1525, .istore 5, 1527, 0, 0), (1527, .aload_n 2, 1528, 0, 0), (1528, .aload_n 0, 1529, 0, 0), (1529, .iload 4, 1531, 0, 0), (1531, .iconst 1, 1532, 0, 1), (1532, .iadd, 1533, 0, 0), (1533, .iaload, 1534, 0, 0), (1534, .invokevirtual 287, 1537, 0, 0)]
def kL_24 : List aE := [(1537, .istore 6, 1539, 0, 0), (1539, .goto 430, 1542, 1969, 0), (1542, .aload_n 1, 1543, 0, 0), (1543, .invokevirtual 288, 1546, 0, 0), (1546, .pop, 1547, 0, 0), (1547, .aload_n 2, 1548, 0, 0), (1548, .invokevirtual 291, 1551, 0, 0), (1551, .pop, 1552, 0, 0), (1552, .goto 417, 1555, 1969, 0), (1555, .aload_n 1, 1556, 0, 0), (1556, .invokevirtual 292, 1559, 0, 0), (1559, .pop, 1560, 0, 0), (1560, .aload_n 2, 1561, 0, 0), (1561, .invokevirtual 295, 1564, 0, 0), (1564, .pop, 1565, 0, 0), (1565, .goto 404, 1568, 1969, 0), (1568, .aload_n 1, 1569, 0, 0), (1569, .invokevirtual 296, 1572, 0, 0), (1572, .pop, 1573, 0, 0), (1573, .aload_n 2, 1574, 0, 0), (1574, .invokevirtual 299, 1577, 0, 0), (1577, .pop, 1578, 0, 0), (1578, .goto 391, 1581, 1969, 0), (1581, .aload_n 1, 1582, 0, 0), (1582, .aload_n 0, 1583, 0, 0), (1583, .iload 4, 1585, 0, 0), (1585, .iconst 1, 1586, 0, 1), (1586, .iadd, 1587, 0, 0), (1587, .iaload, 1588, 0, 0), (1588, .aload_n 3, 1589, 0, 0), (1589, .invokestatic 300, 1592, 0, 0), (1592, .istore 5, 1594, 0, 0), (1594, .aload_n 2, 1595, 0, 0), (1595, .aload_n 0, 1596, 0, 0), (1596, .iload 4, 1598, 0, 0), (1598, .iconst 1, 1599, 0, 1), (1599, .iadd, 1600, 0, 0)]
def kL_25 : List aE := [(1600, .iaload, 1601, 0, 0), (1601, .invokevirtual 302, 1604, 0, 0), (1604, .istore 6, 1606, 0, 0), (1606, .goto 363, 1609, 1969, 0), (1609, .aload_n 1, 1610, 0, 0), (1610, .invokevirtual 303, 1613, 0, 0), (1613, .pop, 1614, 0, 0), (1614, .aload_n 2, 1615, 0, 0), (1615, .invokevirtual 306, 1618, 0, 0), (1618, .pop, 1619, 0, 0), (1619, .goto 350, 1622, 1969, 0), (1622, .aload_n 1, 1623, 0, 0), (1623, .aload_n 0, 1624, 0, 0), (1624, .iload 4, 1626, 0, 0), (1626, .iconst 1, 1627, 0, 1), (1627, .iadd, 1628, 0, 0), (1628, .iaload, 1629, 0, 0), (1629, .aload_n 0, 1630, 0, 0), (1630, .iload 4, 1632, 0, 0), (1632, .iconst 2, 1633, 0, 2), (1633, .iadd, 1634, 0, 0), (1634, .iaload, 1635, 0, 0), (1635, .aload_n 0, 1636, 0, 0), (1636, .iload 4, 1638, 0, 0), (1638, .iconst 3, 1639, 0, 3), (1639, .iadd, 1640, 0, 0), (1640, .iaload, 1641, 0, 0), (1641, .aload_n 3, 1642, 0, 0), (1642, .invokestatic 307, 1645, 0, 0), (1645, .istore 5, 1647, 0, 0), (1647, .aload_n 2, 1648, 0, 0), (1648, .aload_n 0, 1649, 0, 0), (1649, .iload 4, 1651, 0, 0), (1651, .iconst 1, 1652, 0, 1), (1652, .iadd, 1653, 0, 0), (1653, .iaload, 1654, 0, 0), (1654, .aload_n 0, 1655, 0, 0), (1655, .iload 4, 1657, 0, 0), (1657, .iconst 2, 1658, 0, 2), (1658, .iadd, 1659, 0, 0), (1659, .iaload, 1660, 0, 0), (1660, .aload_n 0, 1661, 0, 0), (1661, .iload 4, 1663, 0, 0), (1663, .iconst 3, 1664, 0, 3)]
def kL_26 : List aE := [(1664, .iadd, 1665, 0, 0), (1665, .iaload, 1666, 0, 0), (1666, .invokevirtual 309, 1669, 0, 0), (1669, .istore 6, 1671, 0, 0), (1671, .goto 298, 1674, 1969, 0), (1674, .aload_n 1, 1675, 0, 0), (1675, .aload_n 0, 1676, 0, 0), (1676, .iload 4, 1678, 0, 0), (1678, .iconst 1, 1679, 0, 1), (1679, .iadd, 1680, 0, 0), (1680, .iaload, 1681, 0, 0), (1681, .aload_n 0, 1682, 0, 0), (1682, .iload 4, 1684, 0, 0), (1684, .iconst 2, 1685, 0, 2), (1685, .iadd, 1686, 0, 0), (1686, .iaload, 1687, 0, 0), (1687, .ifCond .eq 7, 1690, 1694, 0), (1690, .iconst 1, 1691, 0, 1), (1691, .goto 4, 1694, 1695, 0), (1694, .iconst 0, 1695, 0, 0), (1695, .aload_n 3, 1696, 0, 0), (1696, .invokestatic 310, 1699, 0, 0), (1699, .istore 5, 1701, 0, 0), (1701, .aload_n 2, 1702, 0, 0), (1702, .aload_n 0, 1703, 0, 0), (1703, .iload 4, 1705, 0, 0), (1705, .iconst 1, 1706, 0, 1), (1706, .iadd, 1707, 0, 0), (1707, .iaload, 1708, 0, 0), (1708, .aload_n 0, 1709, 0, 0), (1709, .iload 4, 1711, 0, 0), (1711, .iconst 2, 1712, 0, 2), (1712, .iadd, 1713, 0, 0), (1713, .iaload, 1714, 0, 0), (1714, .ifCond .eq 7, 1717, 1721, 0), (1717, .iconst 1, 1718, 0, 1), (1718, .goto 4, 1721, 1722, 0), (1721, .iconst 0, 1722, 0, 0), (1722, .invokevirtual 312, 1725, 0, 0), (1725, .istore 6, 1727, 0, 0), (1727, .goto 242, 1730, 1969, 0)]
def kL_27 : List aE := [(1730, .aload_n 1, 1731, 0, 0), (1731, .aload_n 0, 1732, 0, 0), (1732, .iload 4, 1734, 0, 0), (1734, .iconst 1, 1735, 0, 1), (1735, .iadd, 1736, 0, 0), (1736, .iaload, 1737, 0, 0), (1737, .aload_n 0, 1738, 0, 0), (1738, .iload 4, 1740, 0, 0), (1740, .iconst 2, 1741, 0, 2), (1741, .iadd, 1742, 0, 0), (1742, .iaload, 1743, 0, 0), (1743, .ifCond .eq 7, 1746, 1750, 0), (1746, .iconst 1, 1747, 0, 1), (1747, .goto 4, 1750, 1751, 0), (1750, .iconst 0, 1751, 0, 0), (1751, .aload_n 3, 1752, 0, 0), (1752, .invokestatic 313, 1755, 0, 0), (1755, .istore 5, 1757, 0, 0), (1757, .aload_n 2, 1758, 0, 0), (1758, .aload_n 0, 1759, 0, 0), (1759, .iload 4, 1761, 0, 0), (1761, .iconst 1, 1762, 0, 1), (1762, .iadd, 1763, 0, 0), (1763, .iaload, 1764, 0, 0), (1764, .aload_n 0, 1765, 0, 0), (1765, .iload 4, 1767, 0, 0), (1767, .iconst 2, 1768, 0, 2), (1768, .iadd, 1769, 0, 0), (1769, .iaload, 1770, 0, 0), (1770, .ifCond .eq 7, 1773, 1777, 0), (1773, .iconst 1, 1774, 0, 1), (1774, .goto 4, 1777, 1778, 0), (1777, .iconst 0, 1778, 0, 0), (1778, .invokevirtual 315, 1781, 0, 0), (1781, .istore 6, 1783, 0, 0), (1783, .goto 186, 1786, 1969, 0), (1786, .aload_n 1, 1787, 0, 0), (1787, .aload_n 0, 1788, 0, 0), (1788, .iload 4, 1790, 0, 0), (1790, .iconst 1, 1791, 0, 1), (1791, .iadd, 1792, 0, 0)]
def kL_28 : List aE := [(1792, .iaload, 1793, 0, 0), (1793, .aload_n 0, 1794, 0, 0), (1794, .iload 4, 1796, 0, 0), (1796, .iconst 2, 1797, 0, 2), (1797, .iadd, 1798, 0, 0), (1798, .iaload, 1799, 0, 0), (1799, .ifCond .eq 7, 1802, 1806, 0), (1802, .iconst 1, 1803, 0, 1), (1803, .goto 4, 1806, 1807, 0), (1806, .iconst 0, 1807, 0, 0), (1807, .aload_n 3, 1808, 0, 0), (1808, .invokestatic 316, 1811, 0, 0), (1811, .istore 5, 1813, 0, 0), (1813, .aload_n 2, 1814, 0, 0), (1814, .aload_n 0, 1815, 0, 0), (1815, .iload 4, 1817, 0, 0), (1817, .iconst 1, 1818, 0, 1), (1818, .iadd, 1819, 0, 0), (1819, .iaload, 1820, 0, 0), (1820, .aload_n 0, 1821, 0, 0), (1821, .iload 4, 1823, 0, 0), (1823, .iconst 2, 1824, 0, 2), (1824, .iadd, 1825, 0, 0), (1825, .iaload, 1826, 0, 0), (1826, .ifCond .eq 7, 1829, 1833, 0), (1829, .iconst 1, 1830, 0, 1), (1830, .goto 4, 1833, 1834, 0), (1833, .iconst 0, 1834, 0, 0), (1834, .invokevirtual 318, 1837, 0, 0), (1837, .istore 6, 1839, 0, 0), (1839, .goto 130, 1842, 1969, 0), (1842, .aload_n 1, 1843, 0, 0), (1843, .aload_n 0, 1844, 0, 0), (1844, .iload 4, 1846, 0, 0), (1846, .iconst 1, 1847, 0, 1), (1847, .iadd, 1848, 0, 0), (1848, .iaload, 1849, 0, 0), (1849, .aload_n 0, 1850, 0, 0), (1850, .iload 4, 1852, 0, 0), (1852, .iconst 2, 1853, 0, 2), (1853, .iadd, 1854, 0, 0), (1854, .iaload, 1855, 0, 0), (1855, .aload_n 3, 1856, 0, 0)]
def kL_29 : List aE := [(1856, .invokestatic 319, 1859, 0, 0), (1859, .istore 5, 1861, 0, 0), (1861, .aload_n 2, 1862, 0, 0), (1862, .aload_n 0, 1863, 0, 0), (1863, .iload 4, 1865, 0, 0), (1865, .iconst 1, 1866, 0, 1), (1866, .iadd, 1867, 0, 0), (1867, .iaload, 1868, 0, 0), (1868, .aload_n 0, 1869, 0, 0), (1869, .iload 4, 1871, 0, 0), (1871, .iconst 2, 1872, 0, 2), (1872, .iadd, 1873, 0, 0), (1873, .iaload, 1874, 0, 0), (1874, .invokevirtual 321, 1877, 0, 0), (1877, .istore 6, 1879, 0, 0), (1879, .goto 90, 1882, 1969, 0), (1882, .aload_n 1, 1883, 0, 0), (1883, .aload_n 0, 1884, 0, 0), (1884, .iload 4, 1886, 0, 0), (1886, .iconst 1, 1887, 0, 1), (1887, .iadd, 1888, 0, 0), (1888, .iaload, 1889, 0, 0), (1889, .invokevirtual 322, 1892, 0, 0), (1892, .pop, 1893, 0, 0), (1893, .aload_n 2, 1894, 0, 0), (1894, .aload_n 0, 1895, 0, 0), (1895, .iload 4, 1897, 0, 0), (1897, .iconst 1, 1898, 0, 1), (1898, .iadd, 1899, 0, 0), (1899, .iaload, 1900, 0, 0), (1900, .invokevirtual 325, 1903, 0, 0), (1903, .pop, 1904, 0, 0), (1904, .goto 65, 1907, 1969, 0), (1907, .aload_n 1, 1908, 0, 0), (1908, .invokevirtual 326, 1911, 0, 0), (1911, .pop, 1912, 0, 0), (1912, .aload_n 2, 1913, 0, 0), (1913, .invokevirtual 330, 1916, 0, 0), (1916, .pop, 1917, 0, 0), (1917, .goto 52, 1920, 1969, 0)]
def kL_30 : List aE := [(1920, .aload_n 1, 1921, 0, 0), (1921, .invokevirtual 331, 1924, 0, 0), (1924, .aload_n 2, 1925, 0, 0), (1925, .invokevirtual 334, 1928, 0, 0), (1928, .goto 41, 1931, 1969, 0), (1931, .aload_n 1, 1932, 0, 0), (1932, .invokevirtual 335, 1935, 0, 0), (1935, .pop, 1936, 0, 0), (1936, .aload_n 2, 1937, 0, 0), (1937, .invokevirtual 338, 1940, 0, 0), (1940, .pop, 1941, 0, 0), (1941, .goto 28, 1944, 1969, 0), (1944, .aload_n 1, 1945, 0, 0), (1945, .aload_n 0, 1946, 0, 0), (1946, .iload 4, 1948, 0, 0), (1948, .iconst 1, 1949, 0, 1), (1949, .iadd, 1950, 0, 0), (1950, .iaload, 1951, 0, 0), (1951, .invokevirtual 339, 1954, 0, 0), (1954, .pop, 1955, 0, 0), (1955, .aload_n 2, 1956, 0, 0), (1956, .aload_n 0, 1957, 0, 0), (1957, .iload 4, 1959, 0, 0), (1959, .iconst 1, 1960, 0, 1), (1960, .iadd, 1961, 0, 0), (1961, .iaload, 1962, 0, 0), (1962, .invokevirtual 342, 1965, 0, 0), (1965, .pop, 1966, 0, 0), (1966, .goto 3, 1969, 1969, 0), (1969, .iinc 4 6, 1972, 0, 6), (1972, .goto (-1949), 1975, 23, 0), (1975, .iconst 1, 1976, 0, 1), (1976, .ireturn, 1977, 0, 0)]
def m_L_main : aM := (x, code, 7, ret, [], [kL_0, kL_1, kL_2, kL_3, kL_4, kL_5, kL_6, kL_7, kL_8, kL_9, kL_10, kL_11, kL_12, kL_13, kL_14, kL_15, kL_16, kL_17, kL_18, kL_19, kL_20, kL_21, kL_22, kL_23, kL_24, kL_25, kL_26, kL_27, kL_28, kL_29, kL_30])
set_option maxRecDepth 100000 in
theorem ok_L_main : okM m_L_main = true := okM_q (by decide +kernel)
end
section
/-! ===== making: what each constructor lays (printed by program) ===== -/
section B5
variable {S : aS} {C C' : aM} {d d' : Nat} {Q Q' : Option Value → aH → Prop} {X X' : String → aH → Prop} {k1 k2 j1 j2 pc np tgt n : Nat} {w : Int32} {ls ls' : List (Option Value)} {st st' st0 : List Value} {h h' : aH} {ins : Instr} {As : List Value}
/-- it makes cells, and all is known -/
def SpM (S : aS) (C : aM) (d k1 k2 : Nat) (args : List Value) (h h' : aH) : Prop := Sp S C d k1 k2 args h (fun v h'' => v = none ∧ h'' = h') (fun _ _ => False)
theorem a_mI {idx q : Nat} (hC : look C pc = some (.invokespecial idx, np, tgt, w)) (hl : LK C.1.cls idx C') (hM : MOi C' n) (hs : SpM S C' d' j1 j2 (.ref q :: As) h h') (hn : As.length = n) (h0 : st0 = As.reverse ++ .ref q :: st) (ho : cOk d d' j1 j2 k1 k2 st = true) (hh : C.2.2.2.2.1 = []) (kk : AW S C d Q X (k1 - j1) (k2 - j2) np ls st h') : AW S C d Q X k1 k2 pc ls st0 h := by
  refine a_callI hC hl hM hs hn h0 ho hh (fun v h'' hv => ?_) (fun E h' hx => False.elim hx)
  obtain ⟨rfl, rfl⟩ := hv
  exact kk
theorem a_mIN {idx q : Nat} (hC : look C pc = some (.invokespecial idx, np, tgt, w)) (hl : LKn C.1.cls idx C') (hM : MOi C' n) (hs : SpM S C' d' j1 j2 (.ref q :: As) h h') (hn : As.length = n) (h0 : st0 = As.reverse ++ .ref q :: st) (ho : cOk d d' j1 j2 k1 k2 st = true) (hh : C.2.2.2.2.1 = []) (kk : AW S C d Q X (k1 - j1) (k2 - j2) np ls st h') : AW S C d Q X k1 k2 pc ls st0 h := by
  refine a_callIN hC hl hM hs hn h0 ho hh (fun v h'' hv => ?_) (fun E h' hx => False.elim hx)
  obtain ⟨rfl, rfl⟩ := hv
  exact kk
theorem SpM_of {args : List Value} (hO : okM C = true) (hc : args.all (fun v => v.category == 1) = true) (hn : Nat.ble args.length C.2.2.1 = true)
    (k : AW S C d (fun v h'' => v = none ∧ h'' = h') (fun _ _ => False) k1 k2 0 (entL args C.2.2.1) [] h) : SpM S C d k1 k2 args h h' := Sp_of hO hc hn k
end B5
/-- nothing of ours lies behind t -/
def Fr (I : Nat → Nat → Int32) (L : Nat → Nat → Int64) (R : Nat → Nat → Nat) (t : Nat) : Prop := ∀ p, t ≤ p → (∀ k, I p k = 0) ∧ (∀ k, L p k = 0) ∧ ∀ k, R p k = 0
theorem upK_ne {K : Nat → Nat × Nat} {p q : Nat} {v : Nat × Nat} (h : q ≠ p) : upK K p v q = K q := by simp [upK, h]
theorem upK_self {K : Nat → Nat × Nat} {p : Nat} {v : Nat × Nat} : upK K p v p = v := by simp [upK]
section B6
variable {I : Nat → Nat → Int32} {L : Nat → Nat → Int64} {R : Nat → Nat → Nat} {t t' q k : Nat}
theorem Fr.mono (h : Fr I L R t) (h1 : t ≤ t') : Fr I L R t' := fun p hp => h p (Nat.le_trans h1 hp)
theorem Fr.putI {v : Int32} (h : Fr I L R t) (h1 : q < t) : Fr (up2 I q k v) L R t := fun p hp => ⟨fun j => by rw [up2_row (show p ≠ q by omega)]; exact (h p hp).1 j, (h p hp).2⟩
theorem Fr.putR {v : Nat} (h : Fr I L R t) (h1 : q < t) : Fr I L (up2 R q k v) t := fun p hp => ⟨(h p hp).1, (h p hp).2.1, fun j => by rw [up2_row (show p ≠ q by omega)]; exact (h p hp).2.2 j⟩
theorem Fr.i (h : Fr I L R t) : ∀ k, I t k = 0 := (h t (Nat.le_refl t)).1
theorem Fr.l (h : Fr I L R t) : ∀ k, L t k = 0 := (h t (Nat.le_refl t)).2.1
theorem Fr.r (h : Fr I L R t) : ∀ k, R t k = 0 := (h t (Nat.le_refl t)).2.2
end B6
def kX1 (K : Nat → Nat × Nat) (t : Nat) : Nat → Nat × Nat := upK K t (2, 240)
def iX1 (I : Nat → Nat → Int32) (q : Nat) (t : Nat) : Nat → Nat → Int32 := I
def rX1 (R : Nat → Nat → Nat) (q : Nat) (t : Nat) : Nat → Nat → Nat := up2 R q 2 (t + 1)
theorem oldX1 {K : Nat → Nat × Nat} {t p : Nat} (h : p < t) : kX1 K t p = K p := by
  unfold kX1
  simp (disch := omega) only [upK_ne]
theorem rowX1 {R : Nat → Nat → Nat} {q t p : Nat} (h : p ≠ q) (h1 : p < t) : rX1 R q t p = R p := by
  unfold rX1
  simp (disch := omega) only [up2_row]
theorem frX1 {I : Nat → Nat → Int32} {L : Nat → Nat → Int64} {R : Nat → Nat → Nat} {q t : Nat} (f : Fr I L R t) (hq : q < t) : Fr (iX1 I q t) L (rX1 R q t) (t + 1) := by
  unfold iX1 rX1
  exact ((Fr.mono (t' := t + 1) f (Nat.le_succ _)).putR (by omega))
theorem sp_X1_init {S : aS} {K : Nat → Nat × Nat} {I : Nat → Nat → Int32} {L : Nat → Nat → Int64} {R : Nat → Nat → Nat} {q t : Nat} (hK : K q = (1, 1)) (hq : q < t) (ht : 200 ≤ t) (f : Fr I L R t) : SpM S m_X1_init 12 1 240 [.ref q] (K, I, L, R, t) (kX1 K t, iX1 I q t, L, rX1 R q t, t + 1) := by
  refine SpM_of ok_X1_init rfl rfl ?_
  refine a_l0 rfl rfl rfl ?_
  refine a_objinit rfl lX1_3 oi_1 oi_2 rfl rfl ?_
  refine a_l0 rfl rfl rfl ?_
  refine a_s rfl rfl ?_
  refine a_newarr (N := 240) (tg := 0) rfl rfl rfl ar_int (by decide) (by decide) rfl (Nat.ble_eq_true_of_le (by omega)) rfl rfl f.i f.l ?_
  replace f := f.mono (t' := t + 1) (Nat.le_succ _)
  refine a_putq rfl pfX1_11_1 (by first | assumption | (simp (disch := omega) only [upK_self, hK, upK_ne]) | (simp (disch := omega) only [upK_ne, upK_self, hK, upK_ne])) ?_
  replace f := f.putR (q := q) (k := 2) (v := t + 1) (by omega)
  exact a_vret rfl rfl ⟨rfl, rfl⟩
def kX0 (K : Nat → Nat × Nat) (t : Nat) : Nat → Nat × Nat := upK (upK K t (2, 12)) (t + 1) (2, 12)
def iX0 (I : Nat → Nat → Int32) (q : Nat) (t : Nat) : Nat → Nat → Int32 := I
def rX0 (R : Nat → Nat → Nat) (q : Nat) (t : Nat) : Nat → Nat → Nat := up2 (up2 R q 0 (t + 1)) q 1 (t + 1 + 1)
theorem oldX0 {K : Nat → Nat × Nat} {t p : Nat} (h : p < t) : kX0 K t p = K p := by
  unfold kX0
  simp (disch := omega) only [upK_ne, oldX1]
theorem rowX0 {R : Nat → Nat → Nat} {q t p : Nat} (h : p ≠ q) (h1 : p < t) : rX0 R q t p = R p := by
  unfold rX0
  simp (disch := omega) only [up2_row, rowX1]
theorem frX0 {I : Nat → Nat → Int32} {L : Nat → Nat → Int64} {R : Nat → Nat → Nat} {q t : Nat} (f : Fr I L R t) (hq : q < t) : Fr (iX0 I q t) L (rX0 R q t) (t + 2) := by
  unfold iX0 rX0
  exact ((Fr.mono (t' := t + 2) ((Fr.mono (t' := t + 1) f (Nat.le_succ _)).putR (by omega)) (Nat.le_succ _)).putR (by omega))
theorem sp_X0_init {S : aS} {K : Nat → Nat × Nat} {I : Nat → Nat → Int32} {L : Nat → Nat → Int64} {R : Nat → Nat → Nat} {q t : Nat} (hK : K q = (1, 0)) (hq : q < t) (ht : 200 ≤ t) (f : Fr I L R t) : SpM S m_X0_init 12 2 24 [.ref q] (K, I, L, R, t) (kX0 K t, iX0 I q t, L, rX0 R q t, t + 2) := by
  refine SpM_of ok_X0_init rfl rfl ?_
  refine a_l0 rfl rfl rfl ?_
  refine a_objinit rfl lX0_3 oi_1 oi_2 rfl rfl ?_
  refine a_l0 rfl rfl rfl ?_
  refine a_s rfl rfl ?_
  refine a_newarr (N := 12) (tg := 0) rfl rfl rfl ar_int (by decide) (by decide) rfl (Nat.ble_eq_true_of_le (by omega)) rfl rfl f.i f.l ?_
  replace f := f.mono (t' := t + 1) (Nat.le_succ _)
  refine a_putq rfl pfX0_9_0 (by first | assumption | (simp (disch := omega) only [upK_self, hK, upK_ne, oldX1]) | (simp (disch := omega) only [upK_ne, upK_self, hK, upK_ne, oldX1])) ?_
  replace f := f.putR (q := q) (k := 0) (v := t + 1) (by omega)
  refine a_l0 rfl rfl rfl ?_
  refine a_s rfl rfl ?_
  refine a_newarr (N := 12) (tg := 0) rfl rfl rfl ar_int (by decide) (by decide) rfl (Nat.ble_eq_true_of_le (by omega)) rfl rfl f.i f.l ?_
  replace f := f.mono (t' := t + 2) (Nat.le_succ _)
  refine a_putq rfl pfX0_15_0 (by first | assumption | (simp (disch := omega) only [upK_self, hK, upK_ne, oldX1]) | (simp (disch := omega) only [upK_ne, upK_self, hK, upK_ne, oldX1])) ?_
  replace f := f.putR (q := q) (k := 1) (v := t + 1 + 1) (by omega)
  exact a_vret rfl rfl ⟨rfl, rfl⟩
def kX2 (K : Nat → Nat × Nat) (t : Nat) : Nat → Nat × Nat := upK (upK (upK (upK (upK (upK (upK K t (2, 12)) (t + 1) (2, 12)) (t + 2) (2, 12)) (t + 3) (2, 12)) (t + 4) (2, 400)) (t + 5) (2, 9)) (t + 6) (2, 32)
def iX2 (I : Nat → Nat → Int32) (q : Nat) (t : Nat) : Nat → Nat → Int32 := up2 I q 0 (-1)
def rX2 (R : Nat → Nat → Nat) (q : Nat) (t : Nat) : Nat → Nat → Nat := up2 (up2 (up2 (up2 (up2 (up2 (up2 R q 2 (t + 1)) q 3 (t + 1 + 1)) q 4 (t + 2 + 1)) q 5 (t + 3 + 1)) q 6 (t + 4 + 1)) q 7 (t + 5 + 1)) q 8 (t + 6 + 1)
theorem oldX2 {K : Nat → Nat × Nat} {t p : Nat} (h : p < t) : kX2 K t p = K p := by
  unfold kX2
  simp (disch := omega) only [upK_ne, oldX1, oldX0]
theorem rowX2 {R : Nat → Nat → Nat} {q t p : Nat} (h : p ≠ q) (h1 : p < t) : rX2 R q t p = R p := by
  unfold rX2
  simp (disch := omega) only [up2_row, rowX1, rowX0]
theorem frX2 {I : Nat → Nat → Int32} {L : Nat → Nat → Int64} {R : Nat → Nat → Nat} {q t : Nat} (f : Fr I L R t) (hq : q < t) : Fr (iX2 I q t) L (rX2 R q t) (t + 7) := by
  unfold iX2 rX2
  exact ((Fr.mono (t' := t + 7) ((Fr.mono (t' := t + 6) ((Fr.mono (t' := t + 5) ((Fr.mono (t' := t + 4) ((Fr.mono (t' := t + 3) ((Fr.mono (t' := t + 2) ((Fr.mono (t' := t + 1) (f.putI (by omega)) (Nat.le_succ _)).putR (by omega)) (Nat.le_succ _)).putR (by omega)) (Nat.le_succ _)).putR (by omega)) (Nat.le_succ _)).putR (by omega)) (Nat.le_succ _)).putR (by omega)) (Nat.le_succ _)).putR (by omega)) (Nat.le_succ _)).putR (by omega))
theorem sp_X2_init {S : aS} {K : Nat → Nat × Nat} {I : Nat → Nat → Int32} {L : Nat → Nat → Int64} {R : Nat → Nat → Nat} {q t : Nat} (hK : K q = (1, 2)) (hq : q < t) (ht : 200 ≤ t) (f : Fr I L R t) : SpM S m_X2_init 12 7 489 [.ref q] (K, I, L, R, t) (kX2 K t, iX2 I q t, L, rX2 R q t, t + 7) := by
  refine SpM_of ok_X2_init rfl rfl ?_
  refine a_l0 rfl rfl rfl ?_
  refine a_objinit rfl lX2_5 oi_1 oi_2 rfl rfl ?_
  refine a_l0 rfl rfl rfl ?_
  refine a_s rfl rfl ?_
  refine a_puti rfl pfX2_11_2 (by first | assumption | (simp (disch := omega) only [upK_self, hK, upK_ne, oldX1, oldX0]) | (simp (disch := omega) only [upK_ne, upK_self, hK, upK_ne, oldX1, oldX0])) ?_
  replace f := f.putI (q := q) (k := 0) (v := (-1)) (by omega)
  refine a_l0 rfl rfl rfl ?_
  refine a_s rfl rfl ?_
  refine a_newarr (N := 12) (tg := 0) rfl rfl rfl ar_int (by decide) (by decide) rfl (Nat.ble_eq_true_of_le (by omega)) rfl rfl f.i f.l ?_
  replace f := f.mono (t' := t + 1) (Nat.le_succ _)
  refine a_putq rfl pfX2_15_2 (by first | assumption | (simp (disch := omega) only [upK_self, hK, upK_ne, oldX1, oldX0]) | (simp (disch := omega) only [upK_ne, upK_self, hK, upK_ne, oldX1, oldX0])) ?_
  replace f := f.putR (q := q) (k := 2) (v := t + 1) (by omega)
  refine a_l0 rfl rfl rfl ?_
  refine a_s rfl rfl ?_
  refine a_newarr (N := 12) (tg := 0) rfl rfl rfl ar_int (by decide) (by decide) rfl (Nat.ble_eq_true_of_le (by omega)) rfl rfl f.i f.l ?_
  replace f := f.mono (t' := t + 2) (Nat.le_succ _)
  refine a_putq rfl pfX2_19_2 (by first | assumption | (simp (disch := omega) only [upK_self, hK, upK_ne, oldX1, oldX0]) | (simp (disch := omega) only [upK_ne, upK_self, hK, upK_ne, oldX1, oldX0])) ?_
  replace f := f.putR (q := q) (k := 3) (v := t + 1 + 1) (by omega)
  refine a_l0 rfl rfl rfl ?_
  refine a_s rfl rfl ?_
  refine a_newarr (N := 12) (tg := 0) rfl rfl rfl ar_int (by decide) (by decide) rfl (Nat.ble_eq_true_of_le (by omega)) rfl rfl f.i f.l ?_
  replace f := f.mono (t' := t + 3) (Nat.le_succ _)
  refine a_putq rfl pfX2_22_2 (by first | assumption | (simp (disch := omega) only [upK_self, hK, upK_ne, oldX1, oldX0]) | (simp (disch := omega) only [upK_ne, upK_self, hK, upK_ne, oldX1, oldX0])) ?_
  replace f := f.putR (q := q) (k := 4) (v := t + 2 + 1) (by omega)
  refine a_l0 rfl rfl rfl ?_
  refine a_s rfl rfl ?_
  refine a_newarr (N := 12) (tg := 0) rfl rfl rfl ar_int (by decide) (by decide) rfl (Nat.ble_eq_true_of_le (by omega)) rfl rfl f.i f.l ?_
  replace f := f.mono (t' := t + 4) (Nat.le_succ _)
  refine a_putq rfl pfX2_25_2 (by first | assumption | (simp (disch := omega) only [upK_self, hK, upK_ne, oldX1, oldX0]) | (simp (disch := omega) only [upK_ne, upK_self, hK, upK_ne, oldX1, oldX0])) ?_
  replace f := f.putR (q := q) (k := 5) (v := t + 3 + 1) (by omega)
  refine a_l0 rfl rfl rfl ?_
  refine a_s rfl rfl ?_
  refine a_newarr (N := 400) (tg := 0) rfl rfl rfl ar_int (by decide) (by decide) rfl (Nat.ble_eq_true_of_le (by omega)) rfl rfl f.i f.l ?_
  replace f := f.mono (t' := t + 5) (Nat.le_succ _)
  refine a_putq rfl pfX2_28_2 (by first | assumption | (simp (disch := omega) only [upK_self, hK, upK_ne, oldX1, oldX0]) | (simp (disch := omega) only [upK_ne, upK_self, hK, upK_ne, oldX1, oldX0])) ?_
  replace f := f.putR (q := q) (k := 6) (v := t + 4 + 1) (by omega)
  refine a_l0 rfl rfl rfl ?_
  refine a_s rfl rfl ?_
  refine a_newarr (N := 9) (tg := 0) rfl rfl rfl ar_int (by decide) (by decide) rfl (Nat.ble_eq_true_of_le (by omega)) rfl rfl f.i f.l ?_
  replace f := f.mono (t' := t + 6) (Nat.le_succ _)
  refine a_putq rfl pfX2_31_2 (by first | assumption | (simp (disch := omega) only [upK_self, hK, upK_ne, oldX1, oldX0]) | (simp (disch := omega) only [upK_ne, upK_self, hK, upK_ne, oldX1, oldX0])) ?_
  replace f := f.putR (q := q) (k := 7) (v := t + 5 + 1) (by omega)
  refine a_l0 rfl rfl rfl ?_
  refine a_s rfl rfl ?_
  refine a_newarr (N := 32) (tg := 0) rfl rfl rfl ar_int (by decide) (by decide) rfl (Nat.ble_eq_true_of_le (by omega)) rfl rfl f.i f.l ?_
  replace f := f.mono (t' := t + 7) (Nat.le_succ _)
  refine a_putq rfl pfX2_34_2 (by first | assumption | (simp (disch := omega) only [upK_self, hK, upK_ne, oldX1, oldX0]) | (simp (disch := omega) only [upK_ne, upK_self, hK, upK_ne, oldX1, oldX0])) ?_
  replace f := f.putR (q := q) (k := 8) (v := t + 6 + 1) (by omega)
  exact a_vret rfl rfl ⟨rfl, rfl⟩
def kX7 (K : Nat → Nat × Nat) (t : Nat) : Nat → Nat × Nat := upK K t (3, 400)
def iX7 (I : Nat → Nat → Int32) (q : Nat) (t : Nat) : Nat → Nat → Int32 := I
def rX7 (R : Nat → Nat → Nat) (q : Nat) (t : Nat) : Nat → Nat → Nat := up2 R q 0 (t + 1)
theorem oldX7 {K : Nat → Nat × Nat} {t p : Nat} (h : p < t) : kX7 K t p = K p := by
  unfold kX7
  simp (disch := omega) only [upK_ne, oldX1, oldX0, oldX2]
theorem rowX7 {R : Nat → Nat → Nat} {q t p : Nat} (h : p ≠ q) (h1 : p < t) : rX7 R q t p = R p := by
  unfold rX7
  simp (disch := omega) only [up2_row, rowX1, rowX0, rowX2]
theorem frX7 {I : Nat → Nat → Int32} {L : Nat → Nat → Int64} {R : Nat → Nat → Nat} {q t : Nat} (f : Fr I L R t) (hq : q < t) : Fr (iX7 I q t) L (rX7 R q t) (t + 1) := by
  unfold iX7 rX7
  exact ((Fr.mono (t' := t + 1) f (Nat.le_succ _)).putR (by omega))
theorem sp_X7_init {S : aS} {K : Nat → Nat × Nat} {I : Nat → Nat → Int32} {L : Nat → Nat → Int64} {R : Nat → Nat → Nat} {q t : Nat} (hK : K q = (1, 7)) (hq : q < t) (ht : 200 ≤ t) (f : Fr I L R t) : SpM S m_X7_init 12 1 400 [.ref q] (K, I, L, R, t) (kX7 K t, iX7 I q t, L, rX7 R q t, t + 1) := by
  refine SpM_of ok_X7_init rfl rfl ?_
  refine a_l0 rfl rfl rfl ?_
  refine a_objinit rfl lX7_3 oi_1 oi_2 rfl rfl ?_
  refine a_l0 rfl rfl rfl ?_
  refine a_s rfl rfl ?_
  refine a_newarr (N := 400) (tg := 1) rfl rfl rfl ar_byte (by decide) (by decide) rfl (Nat.ble_eq_true_of_le (by omega)) rfl rfl f.i f.l ?_
  replace f := f.mono (t' := t + 1) (Nat.le_succ _)
  refine a_putq rfl pfX7_9_7 (by first | assumption | (simp (disch := omega) only [upK_self, hK, upK_ne, oldX1, oldX0, oldX2]) | (simp (disch := omega) only [upK_ne, upK_self, hK, upK_ne, oldX1, oldX0, oldX2])) ?_
  replace f := f.putR (q := q) (k := 0) (v := t + 1) (by omega)
  exact a_vret rfl rfl ⟨rfl, rfl⟩
def kX9 (K : Nat → Nat × Nat) (t : Nat) : Nat → Nat × Nat := upK (upK (upK (upK K t (2, 401)) (t + 1) (2, 401)) (t + 2) (2, 401)) (t + 3) (2, 401)
def iX9 (I : Nat → Nat → Int32) (q : Nat) (t : Nat) : Nat → Nat → Int32 := I
def rX9 (R : Nat → Nat → Nat) (q : Nat) (t : Nat) : Nat → Nat → Nat := up2 (up2 (up2 (up2 R q 0 (t + 1)) q 1 (t + 1 + 1)) q 2 (t + 2 + 1)) q 3 (t + 3 + 1)
theorem oldX9 {K : Nat → Nat × Nat} {t p : Nat} (h : p < t) : kX9 K t p = K p := by
  unfold kX9
  simp (disch := omega) only [upK_ne, oldX1, oldX0, oldX2, oldX7]
theorem rowX9 {R : Nat → Nat → Nat} {q t p : Nat} (h : p ≠ q) (h1 : p < t) : rX9 R q t p = R p := by
  unfold rX9
  simp (disch := omega) only [up2_row, rowX1, rowX0, rowX2, rowX7]
theorem frX9 {I : Nat → Nat → Int32} {L : Nat → Nat → Int64} {R : Nat → Nat → Nat} {q t : Nat} (f : Fr I L R t) (hq : q < t) : Fr (iX9 I q t) L (rX9 R q t) (t + 4) := by
  unfold iX9 rX9
  exact ((Fr.mono (t' := t + 4) ((Fr.mono (t' := t + 3) ((Fr.mono (t' := t + 2) ((Fr.mono (t' := t + 1) f (Nat.le_succ _)).putR (by omega)) (Nat.le_succ _)).putR (by omega)) (Nat.le_succ _)).putR (by omega)) (Nat.le_succ _)).putR (by omega))
theorem sp_X9_init {S : aS} {K : Nat → Nat × Nat} {I : Nat → Nat → Int32} {L : Nat → Nat → Int64} {R : Nat → Nat → Nat} {q t : Nat} (hK : K q = (1, 9)) (hq : q < t) (ht : 200 ≤ t) (f : Fr I L R t) : SpM S m_X9_init 12 4 1604 [.ref q] (K, I, L, R, t) (kX9 K t, iX9 I q t, L, rX9 R q t, t + 4) := by
  refine SpM_of ok_X9_init rfl rfl ?_
  refine a_l0 rfl rfl rfl ?_
  refine a_objinit rfl lX9_3 oi_1 oi_2 rfl rfl ?_
  refine a_l0 rfl rfl rfl ?_
  refine a_s rfl rfl ?_
  refine a_newarr (N := 401) (tg := 0) rfl rfl rfl ar_int (by decide) (by decide) rfl (Nat.ble_eq_true_of_le (by omega)) rfl rfl f.i f.l ?_
  replace f := f.mono (t' := t + 1) (Nat.le_succ _)
  refine a_putq rfl pfX9_9_9 (by first | assumption | (simp (disch := omega) only [upK_self, hK, upK_ne, oldX1, oldX0, oldX2, oldX7]) | (simp (disch := omega) only [upK_ne, upK_self, hK, upK_ne, oldX1, oldX0, oldX2, oldX7])) ?_
  replace f := f.putR (q := q) (k := 0) (v := t + 1) (by omega)
  refine a_l0 rfl rfl rfl ?_
  refine a_s rfl rfl ?_
  refine a_newarr (N := 401) (tg := 0) rfl rfl rfl ar_int (by decide) (by decide) rfl (Nat.ble_eq_true_of_le (by omega)) rfl rfl f.i f.l ?_
  replace f := f.mono (t' := t + 2) (Nat.le_succ _)
  refine a_putq rfl pfX9_15_9 (by first | assumption | (simp (disch := omega) only [upK_self, hK, upK_ne, oldX1, oldX0, oldX2, oldX7]) | (simp (disch := omega) only [upK_ne, upK_self, hK, upK_ne, oldX1, oldX0, oldX2, oldX7])) ?_
  replace f := f.putR (q := q) (k := 1) (v := t + 1 + 1) (by omega)
  refine a_l0 rfl rfl rfl ?_
  refine a_s rfl rfl ?_
  refine a_newarr (N := 401) (tg := 0) rfl rfl rfl ar_int (by decide) (by decide) rfl (Nat.ble_eq_true_of_le (by omega)) rfl rfl f.i f.l ?_
  replace f := f.mono (t' := t + 3) (Nat.le_succ _)
  refine a_putq rfl pfX9_18_9 (by first | assumption | (simp (disch := omega) only [upK_self, hK, upK_ne, oldX1, oldX0, oldX2, oldX7]) | (simp (disch := omega) only [upK_ne, upK_self, hK, upK_ne, oldX1, oldX0, oldX2, oldX7])) ?_
  replace f := f.putR (q := q) (k := 2) (v := t + 2 + 1) (by omega)
  refine a_l0 rfl rfl rfl ?_
  refine a_s rfl rfl ?_
  refine a_newarr (N := 401) (tg := 0) rfl rfl rfl ar_int (by decide) (by decide) rfl (Nat.ble_eq_true_of_le (by omega)) rfl rfl f.i f.l ?_
  replace f := f.mono (t' := t + 4) (Nat.le_succ _)
  refine a_putq rfl pfX9_21_9 (by first | assumption | (simp (disch := omega) only [upK_self, hK, upK_ne, oldX1, oldX0, oldX2, oldX7]) | (simp (disch := omega) only [upK_ne, upK_self, hK, upK_ne, oldX1, oldX0, oldX2, oldX7])) ?_
  replace f := f.putR (q := q) (k := 3) (v := t + 3 + 1) (by omega)
  exact a_vret rfl rfl ⟨rfl, rfl⟩
def kX5 (K : Nat → Nat × Nat) (t : Nat) : Nat → Nat × Nat := kX1 (upK (upK (upK (upK (upK (upK (upK (upK (upK K t (2, 6)) (t + 1) (2, 6)) (t + 2) (2, 12)) (t + 3) (2, 12)) (t + 4) (2, 12)) (t + 5) (2, 12)) (t + 6) (2, 12)) (t + 7) (2, 12)) (t + 8) (1, 1)) (t + 9)
def iX5 (I : Nat → Nat → Int32) (q : Nat) (t : Nat) : Nat → Nat → Int32 := iX1 (up2 (up2 (up2 (up2 I q 10 1) q 13 2) q 14 3) q 15 1) (t + 8) (t + 9)
def rX5 (R : Nat → Nat → Nat) (q : Nat) (t : Nat) : Nat → Nat → Nat := up2 (rX1 (up2 (up2 (up2 (up2 (up2 (up2 (up2 (up2 R q 1 (t + 1)) q 2 (t + 1 + 1)) q 4 (t + 2 + 1)) q 5 (t + 3 + 1)) q 6 (t + 4 + 1)) q 7 (t + 5 + 1)) q 8 (t + 6 + 1)) q 9 (t + 7 + 1)) (t + 8) (t + 9)) q 17 (t + 8 + 1)
theorem oldX5 {K : Nat → Nat × Nat} {t p : Nat} (h : p < t) : kX5 K t p = K p := by
  unfold kX5
  simp (disch := omega) only [upK_ne, oldX1, oldX0, oldX2, oldX7, oldX9]
theorem rowX5 {R : Nat → Nat → Nat} {q t p : Nat} (h : p ≠ q) (h1 : p < t) : rX5 R q t p = R p := by
  unfold rX5
  simp (disch := omega) only [up2_row, rowX1, rowX0, rowX2, rowX7, rowX9]
theorem frX5 {I : Nat → Nat → Int32} {L : Nat → Nat → Int64} {R : Nat → Nat → Nat} {q t : Nat} (f : Fr I L R t) (hq : q < t) : Fr (iX5 I q t) L (rX5 R q t) (t + 10) := by
  unfold iX5 rX5
  exact ((frX1 (Fr.mono (t' := t + 9) ((((((Fr.mono (t' := t + 8) ((Fr.mono (t' := t + 7) ((Fr.mono (t' := t + 6) ((Fr.mono (t' := t + 5) ((Fr.mono (t' := t + 4) ((Fr.mono (t' := t + 3) ((Fr.mono (t' := t + 2) ((Fr.mono (t' := t + 1) f (Nat.le_succ _)).putR (by omega)) (Nat.le_succ _)).putR (by omega)) (Nat.le_succ _)).putR (by omega)) (Nat.le_succ _)).putR (by omega)) (Nat.le_succ _)).putR (by omega)) (Nat.le_succ _)).putR (by omega)) (Nat.le_succ _)).putR (by omega)) (Nat.le_succ _)).putR (by omega)).putI (by omega)).putI (by omega)).putI (by omega)).putI (by omega)) (Nat.le_succ _)) (by omega)).putR (by omega))
theorem sp_X5_init {S : aS} {K : Nat → Nat × Nat} {I : Nat → Nat → Int32} {L : Nat → Nat → Int64} {R : Nat → Nat → Nat} {q t : Nat} (hK : K q = (1, 5)) (hq : q < t) (ht : 200 ≤ t) (f : Fr I L R t) : SpM S m_X5_init 13 10 327 [.ref q] (K, I, L, R, t) (kX5 K t, iX5 I q t, L, rX5 R q t, t + 10) := by
  refine SpM_of ok_X5_init rfl rfl ?_
  refine a_l0 rfl rfl rfl ?_
  refine a_objinit rfl lX5_3 oi_1 oi_2 rfl rfl ?_
  refine a_l0 rfl rfl rfl ?_
  refine a_s rfl rfl ?_
  refine a_newarr (N := 6) (tg := 0) rfl rfl rfl ar_int (by decide) (by decide) rfl (Nat.ble_eq_true_of_le (by omega)) rfl rfl f.i f.l ?_
  replace f := f.mono (t' := t + 1) (Nat.le_succ _)
  refine a_putq rfl pfX5_9_5 (by first | assumption | (simp (disch := omega) only [upK_self, hK, upK_ne, oldX1, oldX0, oldX2, oldX7, oldX9]) | (simp (disch := omega) only [upK_ne, upK_self, hK, upK_ne, oldX1, oldX0, oldX2, oldX7, oldX9])) ?_
  replace f := f.putR (q := q) (k := 1) (v := t + 1) (by omega)
  refine a_l0 rfl rfl rfl ?_
  refine a_s rfl rfl ?_
  refine a_newarr (N := 6) (tg := 0) rfl rfl rfl ar_int (by decide) (by decide) rfl (Nat.ble_eq_true_of_le (by omega)) rfl rfl f.i f.l ?_
  replace f := f.mono (t' := t + 2) (Nat.le_succ _)
  refine a_putq rfl pfX5_15_5 (by first | assumption | (simp (disch := omega) only [upK_self, hK, upK_ne, oldX1, oldX0, oldX2, oldX7, oldX9]) | (simp (disch := omega) only [upK_ne, upK_self, hK, upK_ne, oldX1, oldX0, oldX2, oldX7, oldX9])) ?_
  replace f := f.putR (q := q) (k := 2) (v := t + 1 + 1) (by omega)
  refine a_l0 rfl rfl rfl ?_
  refine a_s rfl rfl ?_
  refine a_newarr (N := 12) (tg := 0) rfl rfl rfl ar_int (by decide) (by decide) rfl (Nat.ble_eq_true_of_le (by omega)) rfl rfl f.i f.l ?_
  replace f := f.mono (t' := t + 3) (Nat.le_succ _)
  refine a_putq rfl pfX5_18_5 (by first | assumption | (simp (disch := omega) only [upK_self, hK, upK_ne, oldX1, oldX0, oldX2, oldX7, oldX9]) | (simp (disch := omega) only [upK_ne, upK_self, hK, upK_ne, oldX1, oldX0, oldX2, oldX7, oldX9])) ?_
  replace f := f.putR (q := q) (k := 4) (v := t + 2 + 1) (by omega)
  refine a_l0 rfl rfl rfl ?_
  refine a_s rfl rfl ?_
  refine a_newarr (N := 12) (tg := 0) rfl rfl rfl ar_int (by decide) (by decide) rfl (Nat.ble_eq_true_of_le (by omega)) rfl rfl f.i f.l ?_
  replace f := f.mono (t' := t + 4) (Nat.le_succ _)
  refine a_putq rfl pfX5_21_5 (by first | assumption | (simp (disch := omega) only [upK_self, hK, upK_ne, oldX1, oldX0, oldX2, oldX7, oldX9]) | (simp (disch := omega) only [upK_ne, upK_self, hK, upK_ne, oldX1, oldX0, oldX2, oldX7, oldX9])) ?_
  replace f := f.putR (q := q) (k := 5) (v := t + 3 + 1) (by omega)
  refine a_l0 rfl rfl rfl ?_
  refine a_s rfl rfl ?_
  refine a_newarr (N := 12) (tg := 0) rfl rfl rfl ar_int (by decide) (by decide) rfl (Nat.ble_eq_true_of_le (by omega)) rfl rfl f.i f.l ?_
  replace f := f.mono (t' := t + 5) (Nat.le_succ _)
  refine a_putq rfl pfX5_24_5 (by first | assumption | (simp (disch := omega) only [upK_self, hK, upK_ne, oldX1, oldX0, oldX2, oldX7, oldX9]) | (simp (disch := omega) only [upK_ne, upK_self, hK, upK_ne, oldX1, oldX0, oldX2, oldX7, oldX9])) ?_
  replace f := f.putR (q := q) (k := 6) (v := t + 4 + 1) (by omega)
  refine a_l0 rfl rfl rfl ?_
  refine a_s rfl rfl ?_
  refine a_newarr (N := 12) (tg := 0) rfl rfl rfl ar_int (by decide) (by decide) rfl (Nat.ble_eq_true_of_le (by omega)) rfl rfl f.i f.l ?_
  replace f := f.mono (t' := t + 6) (Nat.le_succ _)
  refine a_putq rfl pfX5_27_5 (by first | assumption | (simp (disch := omega) only [upK_self, hK, upK_ne, oldX1, oldX0, oldX2, oldX7, oldX9]) | (simp (disch := omega) only [upK_ne, upK_self, hK, upK_ne, oldX1, oldX0, oldX2, oldX7, oldX9])) ?_
  replace f := f.putR (q := q) (k := 7) (v := t + 5 + 1) (by omega)
  refine a_l0 rfl rfl rfl ?_
  refine a_s rfl rfl ?_
  refine a_newarr (N := 12) (tg := 0) rfl rfl rfl ar_int (by decide) (by decide) rfl (Nat.ble_eq_true_of_le (by omega)) rfl rfl f.i f.l ?_
  replace f := f.mono (t' := t + 7) (Nat.le_succ _)
  refine a_putq rfl pfX5_30_5 (by first | assumption | (simp (disch := omega) only [upK_self, hK, upK_ne, oldX1, oldX0, oldX2, oldX7, oldX9]) | (simp (disch := omega) only [upK_ne, upK_self, hK, upK_ne, oldX1, oldX0, oldX2, oldX7, oldX9])) ?_
  replace f := f.putR (q := q) (k := 8) (v := t + 6 + 1) (by omega)
  refine a_l0 rfl rfl rfl ?_
  refine a_s rfl rfl ?_
  refine a_newarr (N := 12) (tg := 0) rfl rfl rfl ar_int (by decide) (by decide) rfl (Nat.ble_eq_true_of_le (by omega)) rfl rfl f.i f.l ?_
  replace f := f.mono (t' := t + 8) (Nat.le_succ _)
  refine a_putq rfl pfX5_33_5 (by first | assumption | (simp (disch := omega) only [upK_self, hK, upK_ne, oldX1, oldX0, oldX2, oldX7, oldX9]) | (simp (disch := omega) only [upK_ne, upK_self, hK, upK_ne, oldX1, oldX0, oldX2, oldX7, oldX9])) ?_
  replace f := f.putR (q := q) (k := 9) (v := t + 7 + 1) (by omega)
  refine a_l0 rfl rfl rfl ?_
  refine a_s rfl rfl ?_
  refine a_puti rfl pfX5_36_5 (by first | assumption | (simp (disch := omega) only [upK_self, hK, upK_ne, oldX1, oldX0, oldX2, oldX7, oldX9]) | (simp (disch := omega) only [upK_ne, upK_self, hK, upK_ne, oldX1, oldX0, oldX2, oldX7, oldX9])) ?_
  replace f := f.putI (q := q) (k := 10) (v := 1) (by omega)
  refine a_l0 rfl rfl rfl ?_
  refine a_s rfl rfl ?_
  refine a_puti rfl pfX5_40_5 (by first | assumption | (simp (disch := omega) only [upK_self, hK, upK_ne, oldX1, oldX0, oldX2, oldX7, oldX9]) | (simp (disch := omega) only [upK_ne, upK_self, hK, upK_ne, oldX1, oldX0, oldX2, oldX7, oldX9])) ?_
  replace f := f.putI (q := q) (k := 13) (v := 2) (by omega)
  refine a_l0 rfl rfl rfl ?_
  refine a_s rfl rfl ?_
  refine a_puti rfl pfX5_43_5 (by first | assumption | (simp (disch := omega) only [upK_self, hK, upK_ne, oldX1, oldX0, oldX2, oldX7, oldX9]) | (simp (disch := omega) only [upK_ne, upK_self, hK, upK_ne, oldX1, oldX0, oldX2, oldX7, oldX9])) ?_
  replace f := f.putI (q := q) (k := 14) (v := 3) (by omega)
  refine a_l0 rfl rfl rfl ?_
  refine a_s rfl rfl ?_
  refine a_puti rfl pfX5_46_5 (by first | assumption | (simp (disch := omega) only [upK_self, hK, upK_ne, oldX1, oldX0, oldX2, oldX7, oldX9]) | (simp (disch := omega) only [upK_ne, upK_self, hK, upK_ne, oldX1, oldX0, oldX2, oldX7, oldX9])) ?_
  replace f := f.putI (q := q) (k := 15) (v := 1) (by omega)
  refine a_l0 rfl rfl rfl ?_
  refine a_new rfl nX5_49 (Nat.ble_eq_true_of_le (by omega)) rfl rfl f.i f.r ?_
  replace f := f.mono (t' := t + 9) (Nat.le_succ _)
  refine a_s rfl rfl ?_
  refine a_mIN rfl lX5_51 mo_X1_init (sp_X1_init (by first | assumption | (simp (disch := omega) only [upK_self, hK, upK_ne, oldX1, oldX0, oldX2, oldX7, oldX9]) | (simp (disch := omega) only [upK_ne, upK_self, hK, upK_ne, oldX1, oldX0, oldX2, oldX7, oldX9])) (by omega) (by omega) f) rfl rfl rfl rfl ?_
  replace f := frX1 (q := t + 8) f (by omega)
  refine a_putq rfl pfX5_52_5 (by first | assumption | (simp (disch := omega) only [upK_self, hK, upK_ne, oldX1, oldX0, oldX2, oldX7, oldX9]) | (simp (disch := omega) only [upK_ne, upK_self, hK, upK_ne, oldX1, oldX0, oldX2, oldX7, oldX9])) ?_
  replace f := f.putR (q := q) (k := 17) (v := t + 8 + 1) (by omega)
  exact a_vret rfl rfl ⟨rfl, rfl⟩
def kX8_3 (K : Nat → Nat × Nat) (t : Nat) : Nat → Nat × Nat := kX9 (upK K t (1, 9)) (t + 1)
def iX8_3 (I : Nat → Nat → Int32) (q : Nat) (t : Nat) (n : Int32) : Nat → Nat → Int32 := up2 (iX9 I t (t + 1)) q 1 n
def rX8_3 (R : Nat → Nat → Nat) (q : Nat) (t : Nat) : Nat → Nat → Nat := up2 (rX9 R t (t + 1)) q 0 (t + 1)
theorem oldX8_3 {K : Nat → Nat × Nat} {t p : Nat} (h : p < t) : kX8_3 K t p = K p := by
  unfold kX8_3
  simp (disch := omega) only [upK_ne, oldX1, oldX0, oldX2, oldX7, oldX9, oldX5]
theorem rowX8_3 {R : Nat → Nat → Nat} {q t p : Nat} (h : p ≠ q) (h1 : p < t) : rX8_3 R q t p = R p := by
  unfold rX8_3
  simp (disch := omega) only [up2_row, rowX1, rowX0, rowX2, rowX7, rowX9, rowX5]
theorem frX8_3 {I : Nat → Nat → Int32} {L : Nat → Nat → Int64} {R : Nat → Nat → Nat} {q t : Nat} {n : Int32} (f : Fr I L R t) (hq : q < t) : Fr (iX8_3 I q t n) L (rX8_3 R q t) (t + 5) := by
  unfold iX8_3 rX8_3
  exact (((frX9 (Fr.mono (t' := t + 1) f (Nat.le_succ _)) (by omega)).putR (by omega)).putI (by omega))
theorem sp_X8_3_init {S : aS} {K : Nat → Nat × Nat} {I : Nat → Nat → Int32} {L : Nat → Nat → Int64} {R : Nat → Nat → Nat} {q t : Nat} {n : Int32} (hK : K q = (1, 3)) (hq : q < t) (ht : 200 ≤ t) (f : Fr I L R t) : SpM S m_X8_init 13 5 1614 [.ref q, .int n] (K, I, L, R, t) (kX8_3 K t, iX8_3 I q t n, L, rX8_3 R q t, t + 5) := by
  refine SpM_of ok_X8_init rfl rfl ?_
  refine a_l0 rfl rfl rfl ?_
  refine a_objinit rfl lX8_3 oi_1 oi_2 rfl rfl ?_
  refine a_l0 rfl rfl rfl ?_
  refine a_new rfl nX8_9 (Nat.ble_eq_true_of_le (by omega)) rfl rfl f.i f.r ?_
  replace f := f.mono (t' := t + 1) (Nat.le_succ _)
  refine a_s rfl rfl ?_
  refine a_mIN rfl lX8_11 mo_X9_init (sp_X9_init (by first | assumption | (simp (disch := omega) only [upK_self, hK, upK_ne, oldX1, oldX0, oldX2, oldX7, oldX9, oldX5]) | (simp (disch := omega) only [upK_ne, upK_self, hK, upK_ne, oldX1, oldX0, oldX2, oldX7, oldX9, oldX5])) (by omega) (by omega) f) rfl rfl rfl rfl ?_
  replace f := frX9 (q := t) f (by omega)
  refine a_putq rfl pfX8_12_3 (by first | assumption | (simp (disch := omega) only [upK_self, hK, upK_ne, oldX1, oldX0, oldX2, oldX7, oldX9, oldX5]) | (simp (disch := omega) only [upK_ne, upK_self, hK, upK_ne, oldX1, oldX0, oldX2, oldX7, oldX9, oldX5])) ?_
  replace f := f.putR (q := q) (k := 0) (v := t + 1) (by omega)
  refine a_l0 rfl rfl rfl ?_
  refine a_l1 rfl rfl rfl ?_
  refine a_puti rfl pfX8_18_3 (by first | assumption | (simp (disch := omega) only [upK_self, hK, upK_ne, oldX1, oldX0, oldX2, oldX7, oldX9, oldX5]) | (simp (disch := omega) only [upK_ne, upK_self, hK, upK_ne, oldX1, oldX0, oldX2, oldX7, oldX9, oldX5])) ?_
  replace f := f.putI (q := q) (k := 1) (v := n) (by omega)
  exact a_vret rfl rfl ⟨rfl, rfl⟩
def kX8_6 (K : Nat → Nat × Nat) (t : Nat) : Nat → Nat × Nat := kX9 (upK K t (1, 9)) (t + 1)
def iX8_6 (I : Nat → Nat → Int32) (q : Nat) (t : Nat) (n : Int32) : Nat → Nat → Int32 := up2 (iX9 I t (t + 1)) q 1 n
def rX8_6 (R : Nat → Nat → Nat) (q : Nat) (t : Nat) : Nat → Nat → Nat := up2 (rX9 R t (t + 1)) q 0 (t + 1)
theorem oldX8_6 {K : Nat → Nat × Nat} {t p : Nat} (h : p < t) : kX8_6 K t p = K p := by
  unfold kX8_6
  simp (disch := omega) only [upK_ne, oldX1, oldX0, oldX2, oldX7, oldX9, oldX5, oldX8_3]
theorem rowX8_6 {R : Nat → Nat → Nat} {q t p : Nat} (h : p ≠ q) (h1 : p < t) : rX8_6 R q t p = R p := by
  unfold rX8_6
  simp (disch := omega) only [up2_row, rowX1, rowX0, rowX2, rowX7, rowX9, rowX5, rowX8_3]
theorem frX8_6 {I : Nat → Nat → Int32} {L : Nat → Nat → Int64} {R : Nat → Nat → Nat} {q t : Nat} {n : Int32} (f : Fr I L R t) (hq : q < t) : Fr (iX8_6 I q t n) L (rX8_6 R q t) (t + 5) := by
  unfold iX8_6 rX8_6
  exact (((frX9 (Fr.mono (t' := t + 1) f (Nat.le_succ _)) (by omega)).putR (by omega)).putI (by omega))
theorem sp_X8_6_init {S : aS} {K : Nat → Nat × Nat} {I : Nat → Nat → Int32} {L : Nat → Nat → Int64} {R : Nat → Nat → Nat} {q t : Nat} {n : Int32} (hK : K q = (1, 6)) (hq : q < t) (ht : 200 ≤ t) (f : Fr I L R t) : SpM S m_X8_init 13 5 1614 [.ref q, .int n] (K, I, L, R, t) (kX8_6 K t, iX8_6 I q t n, L, rX8_6 R q t, t + 5) := by
  refine SpM_of ok_X8_init rfl rfl ?_
  refine a_l0 rfl rfl rfl ?_
  refine a_objinit rfl lX8_3 oi_1 oi_2 rfl rfl ?_
  refine a_l0 rfl rfl rfl ?_
  refine a_new rfl nX8_9 (Nat.ble_eq_true_of_le (by omega)) rfl rfl f.i f.r ?_
  replace f := f.mono (t' := t + 1) (Nat.le_succ _)
  refine a_s rfl rfl ?_
  refine a_mIN rfl lX8_11 mo_X9_init (sp_X9_init (by first | assumption | (simp (disch := omega) only [upK_self, hK, upK_ne, oldX1, oldX0, oldX2, oldX7, oldX9, oldX5, oldX8_3]) | (simp (disch := omega) only [upK_ne, upK_self, hK, upK_ne, oldX1, oldX0, oldX2, oldX7, oldX9, oldX5, oldX8_3])) (by omega) (by omega) f) rfl rfl rfl rfl ?_
  replace f := frX9 (q := t) f (by omega)
  refine a_putq rfl pfX8_12_6 (by first | assumption | (simp (disch := omega) only [upK_self, hK, upK_ne, oldX1, oldX0, oldX2, oldX7, oldX9, oldX5, oldX8_3]) | (simp (disch := omega) only [upK_ne, upK_self, hK, upK_ne, oldX1, oldX0, oldX2, oldX7, oldX9, oldX5, oldX8_3])) ?_
  replace f := f.putR (q := q) (k := 0) (v := t + 1) (by omega)
  refine a_l0 rfl rfl rfl ?_
  refine a_l1 rfl rfl rfl ?_
  refine a_puti rfl pfX8_18_6 (by first | assumption | (simp (disch := omega) only [upK_self, hK, upK_ne, oldX1, oldX0, oldX2, oldX7, oldX9, oldX5, oldX8_3]) | (simp (disch := omega) only [upK_ne, upK_self, hK, upK_ne, oldX1, oldX0, oldX2, oldX7, oldX9, oldX5, oldX8_3])) ?_
  replace f := f.putI (q := q) (k := 1) (v := n) (by omega)
  exact a_vret rfl rfl ⟨rfl, rfl⟩
def kX6 (K : Nat → Nat × Nat) (t : Nat) : Nat → Nat × Nat := kX5 (upK (kX8_6 K t) (t + 5) (1, 5)) (t + 6)
def iX6 (I : Nat → Nat → Int32) (q : Nat) (t : Nat) : Nat → Nat → Int32 := iX5 (iX8_6 I q t 14) (t + 5) (t + 6)
def rX6 (R : Nat → Nat → Nat) (q : Nat) (t : Nat) : Nat → Nat → Nat := up2 (rX5 (rX8_6 R q t) (t + 5) (t + 6)) q 2 (t + 5 + 1)
theorem oldX6 {K : Nat → Nat × Nat} {t p : Nat} (h : p < t) : kX6 K t p = K p := by
  unfold kX6
  simp (disch := omega) only [upK_ne, oldX1, oldX0, oldX2, oldX7, oldX9, oldX5, oldX8_3, oldX8_6]
theorem rowX6 {R : Nat → Nat → Nat} {q t p : Nat} (h : p ≠ q) (h1 : p < t) : rX6 R q t p = R p := by
  unfold rX6
  simp (disch := omega) only [up2_row, rowX1, rowX0, rowX2, rowX7, rowX9, rowX5, rowX8_3, rowX8_6]
theorem frX6 {I : Nat → Nat → Int32} {L : Nat → Nat → Int64} {R : Nat → Nat → Nat} {q t : Nat} (f : Fr I L R t) (hq : q < t) : Fr (iX6 I q t) L (rX6 R q t) (t + 16) := by
  unfold iX6 rX6
  exact ((frX5 (Fr.mono (t' := t + 6) (frX8_6 f (by omega)) (Nat.le_succ _)) (by omega)).putR (by omega))
theorem sp_X6_init {S : aS} {K : Nat → Nat × Nat} {I : Nat → Nat → Int32} {L : Nat → Nat → Int64} {R : Nat → Nat → Nat} {q t : Nat} (hK : K q = (1, 6)) (hq : q < t) (ht : 200 ≤ t) (f : Fr I L R t) : SpM S m_X6_init 14 16 1959 [.ref q] (K, I, L, R, t) (kX6 K t, iX6 I q t, L, rX6 R q t, t + 16) := by
  refine SpM_of ok_X6_init rfl rfl ?_
  refine a_l0 rfl rfl rfl ?_
  refine a_s rfl rfl ?_
  refine a_mI rfl lX6_5 mo_X8_init (sp_X8_6_init (n := 14) (by first | assumption | (simp (disch := omega) only [upK_self, hK, upK_ne, oldX1, oldX0, oldX2, oldX7, oldX9, oldX5, oldX8_3, oldX8_6]) | (simp (disch := omega) only [upK_ne, upK_self, hK, upK_ne, oldX1, oldX0, oldX2, oldX7, oldX9, oldX5, oldX8_3, oldX8_6])) (by omega) (by omega) f) rfl rfl rfl rfl ?_
  replace f := frX8_6 (q := q) (n := 14) f (by omega)
  refine a_l0 rfl rfl rfl ?_
  refine a_new rfl nX6_11 (Nat.ble_eq_true_of_le (by omega)) rfl rfl f.i f.r ?_
  replace f := f.mono (t' := t + 6) (Nat.le_succ _)
  refine a_s rfl rfl ?_
  refine a_mIN rfl lX6_13 mo_X5_init (sp_X5_init (by first | assumption | (simp (disch := omega) only [upK_self, hK, upK_ne, oldX1, oldX0, oldX2, oldX7, oldX9, oldX5, oldX8_3, oldX8_6]) | (simp (disch := omega) only [upK_ne, upK_self, hK, upK_ne, oldX1, oldX0, oldX2, oldX7, oldX9, oldX5, oldX8_3, oldX8_6])) (by omega) (by omega) f) rfl rfl rfl rfl ?_
  replace f := frX5 (q := t + 5) f (by omega)
  refine a_putq rfl pfX6_16_6 (by first | assumption | (simp (disch := omega) only [upK_self, hK, upK_ne, oldX1, oldX0, oldX2, oldX7, oldX9, oldX5, oldX8_3, oldX8_6]) | (simp (disch := omega) only [upK_ne, upK_self, hK, upK_ne, oldX1, oldX0, oldX2, oldX7, oldX9, oldX5, oldX8_3, oldX8_6])) ?_
  replace f := f.putR (q := q) (k := 2) (v := t + 5 + 1) (by omega)
  exact a_vret rfl rfl ⟨rfl, rfl⟩
def kX3 (K : Nat → Nat × Nat) (t : Nat) : Nat → Nat × Nat := upK (kX2 (upK (kX8_3 K t) (t + 5) (1, 2)) (t + 6)) (t + 13) (2, 32)
def iX3 (I : Nat → Nat → Int32) (q : Nat) (t : Nat) : Nat → Nat → Int32 := iX2 (iX8_3 I q t 12) (t + 5) (t + 6)
def rX3 (R : Nat → Nat → Nat) (q : Nat) (t : Nat) : Nat → Nat → Nat := up2 (up2 (rX2 (rX8_3 R q t) (t + 5) (t + 6)) q 2 (t + 5 + 1)) q 3 (t + 13 + 1)
theorem oldX3 {K : Nat → Nat × Nat} {t p : Nat} (h : p < t) : kX3 K t p = K p := by
  unfold kX3
  simp (disch := omega) only [upK_ne, oldX1, oldX0, oldX2, oldX7, oldX9, oldX5, oldX8_3, oldX8_6, oldX6]
theorem rowX3 {R : Nat → Nat → Nat} {q t p : Nat} (h : p ≠ q) (h1 : p < t) : rX3 R q t p = R p := by
  unfold rX3
  simp (disch := omega) only [up2_row, rowX1, rowX0, rowX2, rowX7, rowX9, rowX5, rowX8_3, rowX8_6, rowX6]
theorem frX3 {I : Nat → Nat → Int32} {L : Nat → Nat → Int64} {R : Nat → Nat → Nat} {q t : Nat} (f : Fr I L R t) (hq : q < t) : Fr (iX3 I q t) L (rX3 R q t) (t + 14) := by
  unfold iX3 rX3
  exact ((Fr.mono (t' := t + 14) ((frX2 (Fr.mono (t' := t + 6) (frX8_3 f (by omega)) (Nat.le_succ _)) (by omega)).putR (by omega)) (Nat.le_succ _)).putR (by omega))
theorem sp_X3_init {S : aS} {K : Nat → Nat × Nat} {I : Nat → Nat → Int32} {L : Nat → Nat → Int64} {R : Nat → Nat → Nat} {q t : Nat} (hK : K q = (1, 3)) (hq : q < t) (ht : 200 ≤ t) (f : Fr I L R t) : SpM S m_X3_init 14 14 2144 [.ref q] (K, I, L, R, t) (kX3 K t, iX3 I q t, L, rX3 R q t, t + 14) := by
  refine SpM_of ok_X3_init rfl rfl ?_
  refine a_l0 rfl rfl rfl ?_
  refine a_s rfl rfl ?_
  refine a_mI rfl lX3_5 mo_X8_init (sp_X8_3_init (n := 12) (by first | assumption | (simp (disch := omega) only [upK_self, hK, upK_ne, oldX1, oldX0, oldX2, oldX7, oldX9, oldX5, oldX8_3, oldX8_6, oldX6]) | (simp (disch := omega) only [upK_ne, upK_self, hK, upK_ne, oldX1, oldX0, oldX2, oldX7, oldX9, oldX5, oldX8_3, oldX8_6, oldX6])) (by omega) (by omega) f) rfl rfl rfl rfl ?_
  replace f := frX8_3 (q := q) (n := 12) f (by omega)
  refine a_l0 rfl rfl rfl ?_
  refine a_new rfl nX3_1 (Nat.ble_eq_true_of_le (by omega)) rfl rfl f.i f.r ?_
  replace f := f.mono (t' := t + 6) (Nat.le_succ _)
  refine a_s rfl rfl ?_
  refine a_mIN rfl lX3_11 mo_X2_init (sp_X2_init (by first | assumption | (simp (disch := omega) only [upK_self, hK, upK_ne, oldX1, oldX0, oldX2, oldX7, oldX9, oldX5, oldX8_3, oldX8_6, oldX6]) | (simp (disch := omega) only [upK_ne, upK_self, hK, upK_ne, oldX1, oldX0, oldX2, oldX7, oldX9, oldX5, oldX8_3, oldX8_6, oldX6])) (by omega) (by omega) f) rfl rfl rfl rfl ?_
  replace f := frX2 (q := t + 5) f (by omega)
  refine a_putq rfl pfX3_14_3 (by first | assumption | (simp (disch := omega) only [upK_self, hK, upK_ne, oldX1, oldX0, oldX2, oldX7, oldX9, oldX5, oldX8_3, oldX8_6, oldX6]) | (simp (disch := omega) only [upK_ne, upK_self, hK, upK_ne, oldX1, oldX0, oldX2, oldX7, oldX9, oldX5, oldX8_3, oldX8_6, oldX6])) ?_
  replace f := f.putR (q := q) (k := 2) (v := t + 5 + 1) (by omega)
  refine a_l0 rfl rfl rfl ?_
  refine a_s rfl rfl ?_
  refine a_newarr (N := 32) (tg := 0) rfl rfl rfl ar_int (by decide) (by decide) rfl (Nat.ble_eq_true_of_le (by omega)) rfl rfl f.i f.l ?_
  replace f := f.mono (t' := t + 14) (Nat.le_succ _)
  refine a_putq rfl pfX3_20_3 (by first | assumption | (simp (disch := omega) only [upK_self, hK, upK_ne, oldX1, oldX0, oldX2, oldX7, oldX9, oldX5, oldX8_3, oldX8_6, oldX6]) | (simp (disch := omega) only [upK_ne, upK_self, hK, upK_ne, oldX1, oldX0, oldX2, oldX7, oldX9, oldX5, oldX8_3, oldX8_6, oldX6])) ?_
  replace f := f.putR (q := q) (k := 3) (v := t + 13 + 1) (by omega)
  exact a_vret rfl rfl ⟨rfl, rfl⟩
end
section
/-! ===== making the two roots, at their places (printed by program) ===== -/
set_option maxRecDepth 100000
def kX11 (K : Nat → Nat × Nat) : Nat → Nat × Nat := kX5 (upK (kX5 (upK (kX5 (upK (kX5 (upK (kX5 (upK (kX5 (upK (kX5 (upK (kX5 (upK (kX5 (upK (kX5 (upK (kX5 (upK (kX5 (upK (upK (kX2 (upK (kX5 (upK (kX5 (upK (kX0 (upK (kX2 (upK (kX5 (upK (kX3 (upK (kX6 (upK (kX7 (upK K 201 (1, 7)) 202) 203 (1, 6)) 204) 220 (1, 3)) 221) 235 (1, 5)) 236) 246 (1, 2)) 247) 254 (1, 0)) 255) 257 (1, 5)) 258) 268 (1, 5)) 269) 279 (1, 2)) 280) 287 (5, 12)) 288 (1, 5)) 289) 299 (1, 5)) 300) 310 (1, 5)) 311) 321 (1, 5)) 322) 332 (1, 5)) 333) 343 (1, 5)) 344) 354 (1, 5)) 355) 365 (1, 5)) 366) 376 (1, 5)) 377) 387 (1, 5)) 388) 398 (1, 5)) 399) 409 (1, 5)) 410
def iX11 (I : Nat → Nat → Int32) : Nat → Nat → Int32 := iX5 (iX5 (iX5 (iX5 (iX5 (iX5 (iX5 (iX5 (iX5 (iX5 (iX5 (iX5 (iX2 (iX5 (iX5 (iX0 (iX2 (iX5 (up2 (iX3 (iX6 (iX7 I 201 202) 203 204) 220 221) 200 3 (-1)) 235 236) 246 247) 254 255) 257 258) 268 269) 279 280) 288 289) 299 300) 310 311) 321 322) 332 333) 343 344) 354 355) 365 366) 376 377) 387 388) 398 399) 409 410
def rX11 (R : Nat → Nat → Nat) : Nat → Nat → Nat := up2 (rX5 (up2 (rX5 (up2 (rX5 (up2 (rX5 (up2 (rX5 (up2 (rX5 (up2 (rX5 (up2 (rX5 (up2 (rX5 (up2 (rX5 (up2 (rX5 (up2 (rX5 (up2 (up2 (rX2 (up2 (rX5 (up2 (rX5 (up2 (rX0 (up2 (rX2 (up2 (rX5 (up2 (rX3 (up2 (rX6 (up2 (rX7 R 201 202) 200 0 (201 + 1)) 203 204) 200 1 (203 + 1)) 220 221) 200 2 (220 + 1)) 235 236) 200 4 (235 + 1)) 246 247) 200 5 (246 + 1)) 254 255) 200 6 (254 + 1)) 257 258) 200 7 (257 + 1)) 268 269) 200 8 (268 + 1)) 279 280) 200 9 (279 + 1)) 200 11 (287 + 1)) 288 289) 287 0 (288 + 1)) 299 300) 287 1 (299 + 1)) 310 311) 287 2 (310 + 1)) 321 322) 287 3 (321 + 1)) 332 333) 287 4 (332 + 1)) 343 344) 287 5 (343 + 1)) 354 355) 287 6 (354 + 1)) 365 366) 287 7 (365 + 1)) 376 377) 287 8 (376 + 1)) 387 388) 287 9 (387 + 1)) 398 399) 287 10 (398 + 1)) 409 410) 287 11 (409 + 1)
theorem oldX11 {K : Nat → Nat × Nat} {p : Nat} (h : p < 201) : kX11 K p = K p := by
  unfold kX11
  simp (disch := omega) only [upK_ne, oldX1, oldX0, oldX2, oldX7, oldX9, oldX5, oldX8_3, oldX8_6, oldX6, oldX3]
theorem frX11 {I : Nat → Nat → Int32} {L : Nat → Nat → Int64} {R : Nat → Nat → Nat} {z : Nat} (f : Fr I L R 201) : Fr (iX11 I) L (rX11 R) 420 := by
  unfold iX11 rX11
  exact ((frX5 (Fr.mono (t' := 410) ((frX5 (Fr.mono (t' := 399) ((frX5 (Fr.mono (t' := 388) ((frX5 (Fr.mono (t' := 377) ((frX5 (Fr.mono (t' := 366) ((frX5 (Fr.mono (t' := 355) ((frX5 (Fr.mono (t' := 344) ((frX5 (Fr.mono (t' := 333) ((frX5 (Fr.mono (t' := 322) ((frX5 (Fr.mono (t' := 311) ((frX5 (Fr.mono (t' := 300) ((frX5 (Fr.mono (t' := 289) ((Fr.mono (t' := 288) ((frX2 (Fr.mono (t' := 280) ((frX5 (Fr.mono (t' := 269) ((frX5 (Fr.mono (t' := 258) ((frX0 (Fr.mono (t' := 255) ((frX2 (Fr.mono (t' := 247) ((frX5 (Fr.mono (t' := 236) (((frX3 (Fr.mono (t' := 221) ((frX6 (Fr.mono (t' := 204) ((frX7 (Fr.mono (t' := 202) f (Nat.le_succ _)) (by decide)).putR (by decide)) (Nat.le_succ _)) (by decide)).putR (by decide)) (Nat.le_succ _)) (by decide)).putR (by decide)).putI (by decide)) (Nat.le_succ _)) (by decide)).putR (by decide)) (Nat.le_succ _)) (by decide)).putR (by decide)) (Nat.le_succ _)) (by decide)).putR (by decide)) (Nat.le_succ _)) (by decide)).putR (by decide)) (Nat.le_succ _)) (by decide)).putR (by decide)) (Nat.le_succ _)) (by decide)).putR (by decide)) (Nat.le_succ _)).putR (by decide)) (Nat.le_succ _)) (by decide)).putR (by decide)) (Nat.le_succ _)) (by decide)).putR (by decide)) (Nat.le_succ _)) (by decide)).putR (by decide)) (Nat.le_succ _)) (by decide)).putR (by decide)) (Nat.le_succ _)) (by decide)).putR (by decide)) (Nat.le_succ _)) (by decide)).putR (by decide)) (Nat.le_succ _)) (by decide)).putR (by decide)) (Nat.le_succ _)) (by decide)).putR (by decide)) (Nat.le_succ _)) (by decide)).putR (by decide)) (Nat.le_succ _)) (by decide)).putR (by decide)) (Nat.le_succ _)) (by decide)).putR (by decide)) (Nat.le_succ _)) (by decide)).putR (by decide))
theorem sp_X11_init {S : aS} {K : Nat → Nat × Nat} {I : Nat → Nat → Int32} {L : Nat → Nat → Int64} {R : Nat → Nat → Nat} (hK : K 200 = (1, 11)) (f : Fr I L R 201) : SpM S m_X11_init 15 219 10723 [.ref 200] (K, I, L, R, 201) (kX11 K, iX11 I, L, rX11 R, 420) := by
  refine SpM_of ok_X11_init rfl rfl ?_
  refine a_l0 rfl rfl rfl ?_
  refine a_objinit rfl lX11_1 oi_1 oi_2 rfl rfl ?_
  refine a_l0 rfl rfl rfl ?_
  refine a_new rfl nX11_7 rfl rfl rfl f.i f.r ?_
  replace f := f.mono (t' := 202) (Nat.le_succ _)
  refine a_s rfl rfl ?_
  refine a_mIN rfl lX11_9 mo_X7_init (sp_X7_init (by first | assumption | (simp (disch := omega) only [upK_self, hK, upK_ne, oldX1, oldX0, oldX2, oldX7, oldX9, oldX5, oldX8_3, oldX8_6, oldX6, oldX3]) | (simp (disch := omega) only [upK_ne, upK_self, hK, upK_ne, oldX1, oldX0, oldX2, oldX7, oldX9, oldX5, oldX8_3, oldX8_6, oldX6, oldX3])) (by decide) (by decide) f) rfl rfl rfl rfl ?_
  replace f := frX7 (q := 201) f (by decide)
  refine a_putq rfl pfX11_10_11 (by first | assumption | (simp (disch := omega) only [upK_self, hK, upK_ne, oldX1, oldX0, oldX2, oldX7, oldX9, oldX5, oldX8_3, oldX8_6, oldX6, oldX3]) | (simp (disch := omega) only [upK_ne, upK_self, hK, upK_ne, oldX1, oldX0, oldX2, oldX7, oldX9, oldX5, oldX8_3, oldX8_6, oldX6, oldX3])) ?_
  replace f := f.putR (q := 200) (k := 0) (v := 201 + 1) (by decide)
  refine a_l0 rfl rfl rfl ?_
  refine a_new rfl nX11_16 rfl rfl rfl f.i f.r ?_
  replace f := f.mono (t' := 204) (Nat.le_succ _)
  refine a_s rfl rfl ?_
  refine a_mI rfl lX11_18 mo_X6_init (sp_X6_init (by first | assumption | (simp (disch := omega) only [upK_self, hK, upK_ne, oldX1, oldX0, oldX2, oldX7, oldX9, oldX5, oldX8_3, oldX8_6, oldX6, oldX3]) | (simp (disch := omega) only [upK_ne, upK_self, hK, upK_ne, oldX1, oldX0, oldX2, oldX7, oldX9, oldX5, oldX8_3, oldX8_6, oldX6, oldX3])) (by decide) (by decide) f) rfl rfl rfl rfl ?_
  replace f := frX6 (q := 203) f (by decide)
  refine a_putq rfl pfX11_19_11 (by first | assumption | (simp (disch := omega) only [upK_self, hK, upK_ne, oldX1, oldX0, oldX2, oldX7, oldX9, oldX5, oldX8_3, oldX8_6, oldX6, oldX3]) | (simp (disch := omega) only [upK_ne, upK_self, hK, upK_ne, oldX1, oldX0, oldX2, oldX7, oldX9, oldX5, oldX8_3, oldX8_6, oldX6, oldX3])) ?_
  replace f := f.putR (q := 200) (k := 1) (v := 203 + 1) (by decide)
  refine a_l0 rfl rfl rfl ?_
  refine a_new rfl nX11_23 rfl rfl rfl f.i f.r ?_
  replace f := f.mono (t' := 221) (Nat.le_succ _)
  refine a_s rfl rfl ?_
  refine a_mI rfl lX11_25 mo_X3_init (sp_X3_init (by first | assumption | (simp (disch := omega) only [upK_self, hK, upK_ne, oldX1, oldX0, oldX2, oldX7, oldX9, oldX5, oldX8_3, oldX8_6, oldX6, oldX3]) | (simp (disch := omega) only [upK_ne, upK_self, hK, upK_ne, oldX1, oldX0, oldX2, oldX7, oldX9, oldX5, oldX8_3, oldX8_6, oldX6, oldX3])) (by decide) (by decide) f) rfl rfl rfl rfl ?_
  replace f := frX3 (q := 220) f (by decide)
  refine a_putq rfl pfX11_26_11 (by first | assumption | (simp (disch := omega) only [upK_self, hK, upK_ne, oldX1, oldX0, oldX2, oldX7, oldX9, oldX5, oldX8_3, oldX8_6, oldX6, oldX3]) | (simp (disch := omega) only [upK_ne, upK_self, hK, upK_ne, oldX1, oldX0, oldX2, oldX7, oldX9, oldX5, oldX8_3, oldX8_6, oldX6, oldX3])) ?_
  replace f := f.putR (q := 200) (k := 2) (v := 220 + 1) (by decide)
  refine a_l0 rfl rfl rfl ?_
  refine a_s rfl rfl ?_
  refine a_puti rfl pfX11_30_11 (by first | assumption | (simp (disch := omega) only [upK_self, hK, upK_ne, oldX1, oldX0, oldX2, oldX7, oldX9, oldX5, oldX8_3, oldX8_6, oldX6, oldX3]) | (simp (disch := omega) only [upK_ne, upK_self, hK, upK_ne, oldX1, oldX0, oldX2, oldX7, oldX9, oldX5, oldX8_3, oldX8_6, oldX6, oldX3])) ?_
  replace f := f.putI (q := 200) (k := 3) (v := (-1)) (by decide)
  refine a_l0 rfl rfl rfl ?_
  refine a_new rfl nX11_34 rfl rfl rfl f.i f.r ?_
  replace f := f.mono (t' := 236) (Nat.le_succ _)
  refine a_s rfl rfl ?_
  refine a_mIN rfl lX11_36 mo_X5_init (sp_X5_init (by first | assumption | (simp (disch := omega) only [upK_self, hK, upK_ne, oldX1, oldX0, oldX2, oldX7, oldX9, oldX5, oldX8_3, oldX8_6, oldX6, oldX3]) | (simp (disch := omega) only [upK_ne, upK_self, hK, upK_ne, oldX1, oldX0, oldX2, oldX7, oldX9, oldX5, oldX8_3, oldX8_6, oldX6, oldX3])) (by decide) (by decide) f) rfl rfl rfl rfl ?_
  replace f := frX5 (q := 235) f (by decide)
  refine a_putq rfl pfX11_37_11 (by first | assumption | (simp (disch := omega) only [upK_self, hK, upK_ne, oldX1, oldX0, oldX2, oldX7, oldX9, oldX5, oldX8_3, oldX8_6, oldX6, oldX3]) | (simp (disch := omega) only [upK_ne, upK_self, hK, upK_ne, oldX1, oldX0, oldX2, oldX7, oldX9, oldX5, oldX8_3, oldX8_6, oldX6, oldX3])) ?_
  replace f := f.putR (q := 200) (k := 4) (v := 235 + 1) (by decide)
  refine a_l0 rfl rfl rfl ?_
  refine a_new rfl nX11_41 rfl rfl rfl f.i f.r ?_
  replace f := f.mono (t' := 247) (Nat.le_succ _)
  refine a_s rfl rfl ?_
  refine a_mIN rfl lX11_43 mo_X2_init (sp_X2_init (by first | assumption | (simp (disch := omega) only [upK_self, hK, upK_ne, oldX1, oldX0, oldX2, oldX7, oldX9, oldX5, oldX8_3, oldX8_6, oldX6, oldX3]) | (simp (disch := omega) only [upK_ne, upK_self, hK, upK_ne, oldX1, oldX0, oldX2, oldX7, oldX9, oldX5, oldX8_3, oldX8_6, oldX6, oldX3])) (by decide) (by decide) f) rfl rfl rfl rfl ?_
  replace f := frX2 (q := 246) f (by decide)
  refine a_putq rfl pfX11_44_11 (by first | assumption | (simp (disch := omega) only [upK_self, hK, upK_ne, oldX1, oldX0, oldX2, oldX7, oldX9, oldX5, oldX8_3, oldX8_6, oldX6, oldX3]) | (simp (disch := omega) only [upK_ne, upK_self, hK, upK_ne, oldX1, oldX0, oldX2, oldX7, oldX9, oldX5, oldX8_3, oldX8_6, oldX6, oldX3])) ?_
  replace f := f.putR (q := 200) (k := 5) (v := 246 + 1) (by decide)
  refine a_l0 rfl rfl rfl ?_
  refine a_new rfl nX11_48 rfl rfl rfl f.i f.r ?_
  replace f := f.mono (t' := 255) (Nat.le_succ _)
  refine a_s rfl rfl ?_
  refine a_mIN rfl lX11_50 mo_X0_init (sp_X0_init (by first | assumption | (simp (disch := omega) only [upK_self, hK, upK_ne, oldX1, oldX0, oldX2, oldX7, oldX9, oldX5, oldX8_3, oldX8_6, oldX6, oldX3]) | (simp (disch := omega) only [upK_ne, upK_self, hK, upK_ne, oldX1, oldX0, oldX2, oldX7, oldX9, oldX5, oldX8_3, oldX8_6, oldX6, oldX3])) (by decide) (by decide) f) rfl rfl rfl rfl ?_
  replace f := frX0 (q := 254) f (by decide)
  refine a_putq rfl pfX11_51_11 (by first | assumption | (simp (disch := omega) only [upK_self, hK, upK_ne, oldX1, oldX0, oldX2, oldX7, oldX9, oldX5, oldX8_3, oldX8_6, oldX6, oldX3]) | (simp (disch := omega) only [upK_ne, upK_self, hK, upK_ne, oldX1, oldX0, oldX2, oldX7, oldX9, oldX5, oldX8_3, oldX8_6, oldX6, oldX3])) ?_
  replace f := f.putR (q := 200) (k := 6) (v := 254 + 1) (by decide)
  refine a_l0 rfl rfl rfl ?_
  refine a_new rfl nX11_34 rfl rfl rfl f.i f.r ?_
  replace f := f.mono (t' := 258) (Nat.le_succ _)
  refine a_s rfl rfl ?_
  refine a_mIN rfl lX11_36 mo_X5_init (sp_X5_init (by first | assumption | (simp (disch := omega) only [upK_self, hK, upK_ne, oldX1, oldX0, oldX2, oldX7, oldX9, oldX5, oldX8_3, oldX8_6, oldX6, oldX3]) | (simp (disch := omega) only [upK_ne, upK_self, hK, upK_ne, oldX1, oldX0, oldX2, oldX7, oldX9, oldX5, oldX8_3, oldX8_6, oldX6, oldX3])) (by decide) (by decide) f) rfl rfl rfl rfl ?_
  replace f := frX5 (q := 257) f (by decide)
  refine a_putq rfl pfX11_55_11 (by first | assumption | (simp (disch := omega) only [upK_self, hK, upK_ne, oldX1, oldX0, oldX2, oldX7, oldX9, oldX5, oldX8_3, oldX8_6, oldX6, oldX3]) | (simp (disch := omega) only [upK_ne, upK_self, hK, upK_ne, oldX1, oldX0, oldX2, oldX7, oldX9, oldX5, oldX8_3, oldX8_6, oldX6, oldX3])) ?_
  replace f := f.putR (q := 200) (k := 7) (v := 257 + 1) (by decide)
  refine a_l0 rfl rfl rfl ?_
  refine a_new rfl nX11_34 rfl rfl rfl f.i f.r ?_
  replace f := f.mono (t' := 269) (Nat.le_succ _)
  refine a_s rfl rfl ?_
  refine a_mIN rfl lX11_36 mo_X5_init (sp_X5_init (by first | assumption | (simp (disch := omega) only [upK_self, hK, upK_ne, oldX1, oldX0, oldX2, oldX7, oldX9, oldX5, oldX8_3, oldX8_6, oldX6, oldX3]) | (simp (disch := omega) only [upK_ne, upK_self, hK, upK_ne, oldX1, oldX0, oldX2, oldX7, oldX9, oldX5, oldX8_3, oldX8_6, oldX6, oldX3])) (by decide) (by decide) f) rfl rfl rfl rfl ?_
  replace f := frX5 (q := 268) f (by decide)
  refine a_putq rfl pfX11_58_11 (by first | assumption | (simp (disch := omega) only [upK_self, hK, upK_ne, oldX1, oldX0, oldX2, oldX7, oldX9, oldX5, oldX8_3, oldX8_6, oldX6, oldX3]) | (simp (disch := omega) only [upK_ne, upK_self, hK, upK_ne, oldX1, oldX0, oldX2, oldX7, oldX9, oldX5, oldX8_3, oldX8_6, oldX6, oldX3])) ?_
  replace f := f.putR (q := 200) (k := 8) (v := 268 + 1) (by decide)
  refine a_l0 rfl rfl rfl ?_
  refine a_new rfl nX11_41 rfl rfl rfl f.i f.r ?_
  replace f := f.mono (t' := 280) (Nat.le_succ _)
  refine a_s rfl rfl ?_
  refine a_mIN rfl lX11_43 mo_X2_init (sp_X2_init (by first | assumption | (simp (disch := omega) only [upK_self, hK, upK_ne, oldX1, oldX0, oldX2, oldX7, oldX9, oldX5, oldX8_3, oldX8_6, oldX6, oldX3]) | (simp (disch := omega) only [upK_ne, upK_self, hK, upK_ne, oldX1, oldX0, oldX2, oldX7, oldX9, oldX5, oldX8_3, oldX8_6, oldX6, oldX3])) (by decide) (by decide) f) rfl rfl rfl rfl ?_
  replace f := frX2 (q := 279) f (by decide)
  refine a_putq rfl pfX11_61_11 (by first | assumption | (simp (disch := omega) only [upK_self, hK, upK_ne, oldX1, oldX0, oldX2, oldX7, oldX9, oldX5, oldX8_3, oldX8_6, oldX6, oldX3]) | (simp (disch := omega) only [upK_ne, upK_self, hK, upK_ne, oldX1, oldX0, oldX2, oldX7, oldX9, oldX5, oldX8_3, oldX8_6, oldX6, oldX3])) ?_
  replace f := f.putR (q := 200) (k := 9) (v := 279 + 1) (by decide)
  refine a_l0 rfl rfl rfl ?_
  refine a_s rfl rfl ?_
  refine a_anew (N := 12) rfl (inC2 (i := 59) rfl rfl) (by decide) (by decide) rfl rfl rfl rfl f.r ?_
  replace f := f.mono (t' := 288) (Nat.le_succ _)
  refine a_putq rfl pfX11_64_11 (by first | assumption | (simp (disch := omega) only [upK_self, hK, upK_ne, oldX1, oldX0, oldX2, oldX7, oldX9, oldX5, oldX8_3, oldX8_6, oldX6, oldX3]) | (simp (disch := omega) only [upK_ne, upK_self, hK, upK_ne, oldX1, oldX0, oldX2, oldX7, oldX9, oldX5, oldX8_3, oldX8_6, oldX6, oldX3])) ?_
  replace f := f.putR (q := 200) (k := 11) (v := 287 + 1) (by decide)
  refine a_s rfl rfl ?_
  refine a_s1 rfl rfl rfl rfl rfl rfl ?_
  refine a_l1 rfl rfl rfl ?_
  refine a_l0 rfl rfl rfl ?_
  refine a_getq (q := 287) rfl gfX11_64_11 (by first | assumption | (simp (disch := omega) only [upK_self, hK, upK_ne, oldX1, oldX0, oldX2, oldX7, oldX9, oldX5, oldX8_3, oldX8_6, oldX6, oldX3]) | (simp (disch := omega) only [upK_ne, upK_self, hK, upK_ne, oldX1, oldX0, oldX2, oldX7, oldX9, oldX5, oldX8_3, oldX8_6, oldX6, oldX3])) (by simp (disch := decide) only [up2_at, up2_ne, up2_row, rowX1, rowX0, rowX2, rowX7, rowX9, rowX5, rowX8_3, rowX8_6, rowX6, rowX3]) ?_
  refine a_len (tt := 3) (n := 12) rfl (by first | assumption | (simp (disch := omega) only [upK_self, hK, upK_ne, oldX1, oldX0, oldX2, oldX7, oldX9, oldX5, oldX8_3, oldX8_6, oldX6, oldX3]) | (simp (disch := omega) only [upK_ne, upK_self, hK, upK_ne, oldX1, oldX0, oldX2, oldX7, oldX9, oldX5, oldX8_3, oldX8_6, oldX6, oldX3])) rfl rfl ?_
  refine a_ic_ge rfl (fun c => absurd c (by decide)) (fun c => ?_)
  refine a_l0 rfl rfl rfl ?_
  refine a_getq (q := 287) rfl gfX11_64_11 (by first | assumption | (simp (disch := omega) only [upK_self, hK, upK_ne, oldX1, oldX0, oldX2, oldX7, oldX9, oldX5, oldX8_3, oldX8_6, oldX6, oldX3]) | (simp (disch := omega) only [upK_ne, upK_self, hK, upK_ne, oldX1, oldX0, oldX2, oldX7, oldX9, oldX5, oldX8_3, oldX8_6, oldX6, oldX3])) (by simp (disch := decide) only [up2_at, up2_ne, up2_row, rowX1, rowX0, rowX2, rowX7, rowX9, rowX5, rowX8_3, rowX8_6, rowX6, rowX3]) ?_
  refine a_l1 rfl rfl rfl ?_
  refine a_new rfl nX11_34 rfl rfl rfl f.i f.r ?_
  replace f := f.mono (t' := 289) (Nat.le_succ _)
  refine a_s rfl rfl ?_
  refine a_mIN rfl lX11_36 mo_X5_init (sp_X5_init (by first | assumption | (simp (disch := omega) only [upK_self, hK, upK_ne, oldX1, oldX0, oldX2, oldX7, oldX9, oldX5, oldX8_3, oldX8_6, oldX6, oldX3]) | (simp (disch := omega) only [upK_ne, upK_self, hK, upK_ne, oldX1, oldX0, oldX2, oldX7, oldX9, oldX5, oldX8_3, oldX8_6, oldX6, oldX3])) (by decide) (by decide) f) rfl rfl rfl rfl ?_
  replace f := frX5 (q := 288) f (by decide)
  refine a_aast (n := 12) rfl (by first | assumption | (simp (disch := omega) only [upK_self, hK, upK_ne, oldX1, oldX0, oldX2, oldX7, oldX9, oldX5, oldX8_3, oldX8_6, oldX6, oldX3]) | (simp (disch := omega) only [upK_ne, upK_self, hK, upK_ne, oldX1, oldX0, oldX2, oldX7, oldX9, oldX5, oldX8_3, oldX8_6, oldX6, oldX3])) (by first | assumption | (simp (disch := omega) only [upK_self, hK, upK_ne, oldX1, oldX0, oldX2, oldX7, oldX9, oldX5, oldX8_3, oldX8_6, oldX6, oldX3]) | (simp (disch := omega) only [upK_ne, upK_self, hK, upK_ne, oldX1, oldX0, oldX2, oldX7, oldX9, oldX5, oldX8_3, oldX8_6, oldX6, oldX3])) ⟨by decide, by decide⟩ ?_
  replace f := f.putR (q := 287) (k := 0) (v := 288 + 1) (by decide)
  refine a_i1 rfl rfl rfl ?_
  refine a_goto rfl ?_
  refine a_l1 rfl rfl rfl ?_
  refine a_l0 rfl rfl rfl ?_
  refine a_getq (q := 287) rfl gfX11_64_11 (by first | assumption | (simp (disch := omega) only [upK_self, hK, upK_ne, oldX1, oldX0, oldX2, oldX7, oldX9, oldX5, oldX8_3, oldX8_6, oldX6, oldX3]) | (simp (disch := omega) only [upK_ne, upK_self, hK, upK_ne, oldX1, oldX0, oldX2, oldX7, oldX9, oldX5, oldX8_3, oldX8_6, oldX6, oldX3])) (by simp (disch := decide) only [up2_at, up2_ne, up2_row, rowX1, rowX0, rowX2, rowX7, rowX9, rowX5, rowX8_3, rowX8_6, rowX6, rowX3]) ?_
  refine a_len (tt := 3) (n := 12) rfl (by first | assumption | (simp (disch := omega) only [upK_self, hK, upK_ne, oldX1, oldX0, oldX2, oldX7, oldX9, oldX5, oldX8_3, oldX8_6, oldX6, oldX3]) | (simp (disch := omega) only [upK_ne, upK_self, hK, upK_ne, oldX1, oldX0, oldX2, oldX7, oldX9, oldX5, oldX8_3, oldX8_6, oldX6, oldX3])) rfl rfl ?_
  refine a_ic_ge rfl (fun c => absurd c (by decide)) (fun c => ?_)
  refine a_l0 rfl rfl rfl ?_
  refine a_getq (q := 287) rfl gfX11_64_11 (by first | assumption | (simp (disch := omega) only [upK_self, hK, upK_ne, oldX1, oldX0, oldX2, oldX7, oldX9, oldX5, oldX8_3, oldX8_6, oldX6, oldX3]) | (simp (disch := omega) only [upK_ne, upK_self, hK, upK_ne, oldX1, oldX0, oldX2, oldX7, oldX9, oldX5, oldX8_3, oldX8_6, oldX6, oldX3])) (by simp (disch := decide) only [up2_at, up2_ne, up2_row, rowX1, rowX0, rowX2, rowX7, rowX9, rowX5, rowX8_3, rowX8_6, rowX6, rowX3]) ?_
  refine a_l1 rfl rfl rfl ?_
  refine a_new rfl nX11_34 rfl rfl rfl f.i f.r ?_
  replace f := f.mono (t' := 300) (Nat.le_succ _)
  refine a_s rfl rfl ?_
  refine a_mIN rfl lX11_36 mo_X5_init (sp_X5_init (by first | assumption | (simp (disch := omega) only [upK_self, hK, upK_ne, oldX1, oldX0, oldX2, oldX7, oldX9, oldX5, oldX8_3, oldX8_6, oldX6, oldX3]) | (simp (disch := omega) only [upK_ne, upK_self, hK, upK_ne, oldX1, oldX0, oldX2, oldX7, oldX9, oldX5, oldX8_3, oldX8_6, oldX6, oldX3])) (by decide) (by decide) f) rfl rfl rfl rfl ?_
  replace f := frX5 (q := 299) f (by decide)
  refine a_aast (n := 12) rfl (by first | assumption | (simp (disch := omega) only [upK_self, hK, upK_ne, oldX1, oldX0, oldX2, oldX7, oldX9, oldX5, oldX8_3, oldX8_6, oldX6, oldX3]) | (simp (disch := omega) only [upK_ne, upK_self, hK, upK_ne, oldX1, oldX0, oldX2, oldX7, oldX9, oldX5, oldX8_3, oldX8_6, oldX6, oldX3])) (by first | assumption | (simp (disch := omega) only [upK_self, hK, upK_ne, oldX1, oldX0, oldX2, oldX7, oldX9, oldX5, oldX8_3, oldX8_6, oldX6, oldX3]) | (simp (disch := omega) only [upK_ne, upK_self, hK, upK_ne, oldX1, oldX0, oldX2, oldX7, oldX9, oldX5, oldX8_3, oldX8_6, oldX6, oldX3])) ⟨by decide, by decide⟩ ?_
  replace f := f.putR (q := 287) (k := 1) (v := 299 + 1) (by decide)
  refine a_i1 rfl rfl rfl ?_
  refine a_goto rfl ?_
  refine a_l1 rfl rfl rfl ?_
  refine a_l0 rfl rfl rfl ?_
  refine a_getq (q := 287) rfl gfX11_64_11 (by first | assumption | (simp (disch := omega) only [upK_self, hK, upK_ne, oldX1, oldX0, oldX2, oldX7, oldX9, oldX5, oldX8_3, oldX8_6, oldX6, oldX3]) | (simp (disch := omega) only [upK_ne, upK_self, hK, upK_ne, oldX1, oldX0, oldX2, oldX7, oldX9, oldX5, oldX8_3, oldX8_6, oldX6, oldX3])) (by simp (disch := decide) only [up2_at, up2_ne, up2_row, rowX1, rowX0, rowX2, rowX7, rowX9, rowX5, rowX8_3, rowX8_6, rowX6, rowX3]) ?_
  refine a_len (tt := 3) (n := 12) rfl (by first | assumption | (simp (disch := omega) only [upK_self, hK, upK_ne, oldX1, oldX0, oldX2, oldX7, oldX9, oldX5, oldX8_3, oldX8_6, oldX6, oldX3]) | (simp (disch := omega) only [upK_ne, upK_self, hK, upK_ne, oldX1, oldX0, oldX2, oldX7, oldX9, oldX5, oldX8_3, oldX8_6, oldX6, oldX3])) rfl rfl ?_
  refine a_ic_ge rfl (fun c => absurd c (by decide)) (fun c => ?_)
  refine a_l0 rfl rfl rfl ?_
  refine a_getq (q := 287) rfl gfX11_64_11 (by first | assumption | (simp (disch := omega) only [upK_self, hK, upK_ne, oldX1, oldX0, oldX2, oldX7, oldX9, oldX5, oldX8_3, oldX8_6, oldX6, oldX3]) | (simp (disch := omega) only [upK_ne, upK_self, hK, upK_ne, oldX1, oldX0, oldX2, oldX7, oldX9, oldX5, oldX8_3, oldX8_6, oldX6, oldX3])) (by simp (disch := decide) only [up2_at, up2_ne, up2_row, rowX1, rowX0, rowX2, rowX7, rowX9, rowX5, rowX8_3, rowX8_6, rowX6, rowX3]) ?_
  refine a_l1 rfl rfl rfl ?_
  refine a_new rfl nX11_34 rfl rfl rfl f.i f.r ?_
  replace f := f.mono (t' := 311) (Nat.le_succ _)
  refine a_s rfl rfl ?_
  refine a_mIN rfl lX11_36 mo_X5_init (sp_X5_init (by first | assumption | (simp (disch := omega) only [upK_self, hK, upK_ne, oldX1, oldX0, oldX2, oldX7, oldX9, oldX5, oldX8_3, oldX8_6, oldX6, oldX3]) | (simp (disch := omega) only [upK_ne, upK_self, hK, upK_ne, oldX1, oldX0, oldX2, oldX7, oldX9, oldX5, oldX8_3, oldX8_6, oldX6, oldX3])) (by decide) (by decide) f) rfl rfl rfl rfl ?_
  replace f := frX5 (q := 310) f (by decide)
  refine a_aast (n := 12) rfl (by first | assumption | (simp (disch := omega) only [upK_self, hK, upK_ne, oldX1, oldX0, oldX2, oldX7, oldX9, oldX5, oldX8_3, oldX8_6, oldX6, oldX3]) | (simp (disch := omega) only [upK_ne, upK_self, hK, upK_ne, oldX1, oldX0, oldX2, oldX7, oldX9, oldX5, oldX8_3, oldX8_6, oldX6, oldX3])) (by first | assumption | (simp (disch := omega) only [upK_self, hK, upK_ne, oldX1, oldX0, oldX2, oldX7, oldX9, oldX5, oldX8_3, oldX8_6, oldX6, oldX3]) | (simp (disch := omega) only [upK_ne, upK_self, hK, upK_ne, oldX1, oldX0, oldX2, oldX7, oldX9, oldX5, oldX8_3, oldX8_6, oldX6, oldX3])) ⟨by decide, by decide⟩ ?_
  replace f := f.putR (q := 287) (k := 2) (v := 310 + 1) (by decide)
  refine a_i1 rfl rfl rfl ?_
  refine a_goto rfl ?_
  refine a_l1 rfl rfl rfl ?_
  refine a_l0 rfl rfl rfl ?_
  refine a_getq (q := 287) rfl gfX11_64_11 (by first | assumption | (simp (disch := omega) only [upK_self, hK, upK_ne, oldX1, oldX0, oldX2, oldX7, oldX9, oldX5, oldX8_3, oldX8_6, oldX6, oldX3]) | (simp (disch := omega) only [upK_ne, upK_self, hK, upK_ne, oldX1, oldX0, oldX2, oldX7, oldX9, oldX5, oldX8_3, oldX8_6, oldX6, oldX3])) (by simp (disch := decide) only [up2_at, up2_ne, up2_row, rowX1, rowX0, rowX2, rowX7, rowX9, rowX5, rowX8_3, rowX8_6, rowX6, rowX3]) ?_
  refine a_len (tt := 3) (n := 12) rfl (by first | assumption | (simp (disch := omega) only [upK_self, hK, upK_ne, oldX1, oldX0, oldX2, oldX7, oldX9, oldX5, oldX8_3, oldX8_6, oldX6, oldX3]) | (simp (disch := omega) only [upK_ne, upK_self, hK, upK_ne, oldX1, oldX0, oldX2, oldX7, oldX9, oldX5, oldX8_3, oldX8_6, oldX6, oldX3])) rfl rfl ?_
  refine a_ic_ge rfl (fun c => absurd c (by decide)) (fun c => ?_)
  refine a_l0 rfl rfl rfl ?_
  refine a_getq (q := 287) rfl gfX11_64_11 (by first | assumption | (simp (disch := omega) only [upK_self, hK, upK_ne, oldX1, oldX0, oldX2, oldX7, oldX9, oldX5, oldX8_3, oldX8_6, oldX6, oldX3]) | (simp (disch := omega) only [upK_ne, upK_self, hK, upK_ne, oldX1, oldX0, oldX2, oldX7, oldX9, oldX5, oldX8_3, oldX8_6, oldX6, oldX3])) (by simp (disch := decide) only [up2_at, up2_ne, up2_row, rowX1, rowX0, rowX2, rowX7, rowX9, rowX5, rowX8_3, rowX8_6, rowX6, rowX3]) ?_
  refine a_l1 rfl rfl rfl ?_
  refine a_new rfl nX11_34 rfl rfl rfl f.i f.r ?_
  replace f := f.mono (t' := 322) (Nat.le_succ _)
  refine a_s rfl rfl ?_
  refine a_mIN rfl lX11_36 mo_X5_init (sp_X5_init (by first | assumption | (simp (disch := omega) only [upK_self, hK, upK_ne, oldX1, oldX0, oldX2, oldX7, oldX9, oldX5, oldX8_3, oldX8_6, oldX6, oldX3]) | (simp (disch := omega) only [upK_ne, upK_self, hK, upK_ne, oldX1, oldX0, oldX2, oldX7, oldX9, oldX5, oldX8_3, oldX8_6, oldX6, oldX3])) (by decide) (by decide) f) rfl rfl rfl rfl ?_
  replace f := frX5 (q := 321) f (by decide)
  refine a_aast (n := 12) rfl (by first | assumption | (simp (disch := omega) only [upK_self, hK, upK_ne, oldX1, oldX0, oldX2, oldX7, oldX9, oldX5, oldX8_3, oldX8_6, oldX6, oldX3]) | (simp (disch := omega) only [upK_ne, upK_self, hK, upK_ne, oldX1, oldX0, oldX2, oldX7, oldX9, oldX5, oldX8_3, oldX8_6, oldX6, oldX3])) (by first | assumption | (simp (disch := omega) only [upK_self, hK, upK_ne, oldX1, oldX0, oldX2, oldX7, oldX9, oldX5, oldX8_3, oldX8_6, oldX6, oldX3]) | (simp (disch := omega) only [upK_ne, upK_self, hK, upK_ne, oldX1, oldX0, oldX2, oldX7, oldX9, oldX5, oldX8_3, oldX8_6, oldX6, oldX3])) ⟨by decide, by decide⟩ ?_
  replace f := f.putR (q := 287) (k := 3) (v := 321 + 1) (by decide)
  refine a_i1 rfl rfl rfl ?_
  refine a_goto rfl ?_
  refine a_l1 rfl rfl rfl ?_
  refine a_l0 rfl rfl rfl ?_
  refine a_getq (q := 287) rfl gfX11_64_11 (by first | assumption | (simp (disch := omega) only [upK_self, hK, upK_ne, oldX1, oldX0, oldX2, oldX7, oldX9, oldX5, oldX8_3, oldX8_6, oldX6, oldX3]) | (simp (disch := omega) only [upK_ne, upK_self, hK, upK_ne, oldX1, oldX0, oldX2, oldX7, oldX9, oldX5, oldX8_3, oldX8_6, oldX6, oldX3])) (by simp (disch := decide) only [up2_at, up2_ne, up2_row, rowX1, rowX0, rowX2, rowX7, rowX9, rowX5, rowX8_3, rowX8_6, rowX6, rowX3]) ?_
  refine a_len (tt := 3) (n := 12) rfl (by first | assumption | (simp (disch := omega) only [upK_self, hK, upK_ne, oldX1, oldX0, oldX2, oldX7, oldX9, oldX5, oldX8_3, oldX8_6, oldX6, oldX3]) | (simp (disch := omega) only [upK_ne, upK_self, hK, upK_ne, oldX1, oldX0, oldX2, oldX7, oldX9, oldX5, oldX8_3, oldX8_6, oldX6, oldX3])) rfl rfl ?_
  refine a_ic_ge rfl (fun c => absurd c (by decide)) (fun c => ?_)
  refine a_l0 rfl rfl rfl ?_
  refine a_getq (q := 287) rfl gfX11_64_11 (by first | assumption | (simp (disch := omega) only [upK_self, hK, upK_ne, oldX1, oldX0, oldX2, oldX7, oldX9, oldX5, oldX8_3, oldX8_6, oldX6, oldX3]) | (simp (disch := omega) only [upK_ne, upK_self, hK, upK_ne, oldX1, oldX0, oldX2, oldX7, oldX9, oldX5, oldX8_3, oldX8_6, oldX6, oldX3])) (by simp (disch := decide) only [up2_at, up2_ne, up2_row, rowX1, rowX0, rowX2, rowX7, rowX9, rowX5, rowX8_3, rowX8_6, rowX6, rowX3]) ?_
  refine a_l1 rfl rfl rfl ?_
  refine a_new rfl nX11_34 rfl rfl rfl f.i f.r ?_
  replace f := f.mono (t' := 333) (Nat.le_succ _)
  refine a_s rfl rfl ?_
  refine a_mIN rfl lX11_36 mo_X5_init (sp_X5_init (by first | assumption | (simp (disch := omega) only [upK_self, hK, upK_ne, oldX1, oldX0, oldX2, oldX7, oldX9, oldX5, oldX8_3, oldX8_6, oldX6, oldX3]) | (simp (disch := omega) only [upK_ne, upK_self, hK, upK_ne, oldX1, oldX0, oldX2, oldX7, oldX9, oldX5, oldX8_3, oldX8_6, oldX6, oldX3])) (by decide) (by decide) f) rfl rfl rfl rfl ?_
  replace f := frX5 (q := 332) f (by decide)
  refine a_aast (n := 12) rfl (by first | assumption | (simp (disch := omega) only [upK_self, hK, upK_ne, oldX1, oldX0, oldX2, oldX7, oldX9, oldX5, oldX8_3, oldX8_6, oldX6, oldX3]) | (simp (disch := omega) only [upK_ne, upK_self, hK, upK_ne, oldX1, oldX0, oldX2, oldX7, oldX9, oldX5, oldX8_3, oldX8_6, oldX6, oldX3])) (by first | assumption | (simp (disch := omega) only [upK_self, hK, upK_ne, oldX1, oldX0, oldX2, oldX7, oldX9, oldX5, oldX8_3, oldX8_6, oldX6, oldX3]) | (simp (disch := omega) only [upK_ne, upK_self, hK, upK_ne, oldX1, oldX0, oldX2, oldX7, oldX9, oldX5, oldX8_3, oldX8_6, oldX6, oldX3])) ⟨by decide, by decide⟩ ?_
  replace f := f.putR (q := 287) (k := 4) (v := 332 + 1) (by decide)
  refine a_i1 rfl rfl rfl ?_
  refine a_goto rfl ?_
  refine a_l1 rfl rfl rfl ?_
  refine a_l0 rfl rfl rfl ?_
  refine a_getq (q := 287) rfl gfX11_64_11 (by first | assumption | (simp (disch := omega) only [upK_self, hK, upK_ne, oldX1, oldX0, oldX2, oldX7, oldX9, oldX5, oldX8_3, oldX8_6, oldX6, oldX3]) | (simp (disch := omega) only [upK_ne, upK_self, hK, upK_ne, oldX1, oldX0, oldX2, oldX7, oldX9, oldX5, oldX8_3, oldX8_6, oldX6, oldX3])) (by simp (disch := decide) only [up2_at, up2_ne, up2_row, rowX1, rowX0, rowX2, rowX7, rowX9, rowX5, rowX8_3, rowX8_6, rowX6, rowX3]) ?_
  refine a_len (tt := 3) (n := 12) rfl (by first | assumption | (simp (disch := omega) only [upK_self, hK, upK_ne, oldX1, oldX0, oldX2, oldX7, oldX9, oldX5, oldX8_3, oldX8_6, oldX6, oldX3]) | (simp (disch := omega) only [upK_ne, upK_self, hK, upK_ne, oldX1, oldX0, oldX2, oldX7, oldX9, oldX5, oldX8_3, oldX8_6, oldX6, oldX3])) rfl rfl ?_
  refine a_ic_ge rfl (fun c => absurd c (by decide)) (fun c => ?_)
  refine a_l0 rfl rfl rfl ?_
  refine a_getq (q := 287) rfl gfX11_64_11 (by first | assumption | (simp (disch := omega) only [upK_self, hK, upK_ne, oldX1, oldX0, oldX2, oldX7, oldX9, oldX5, oldX8_3, oldX8_6, oldX6, oldX3]) | (simp (disch := omega) only [upK_ne, upK_self, hK, upK_ne, oldX1, oldX0, oldX2, oldX7, oldX9, oldX5, oldX8_3, oldX8_6, oldX6, oldX3])) (by simp (disch := decide) only [up2_at, up2_ne, up2_row, rowX1, rowX0, rowX2, rowX7, rowX9, rowX5, rowX8_3, rowX8_6, rowX6, rowX3]) ?_
  refine a_l1 rfl rfl rfl ?_
  refine a_new rfl nX11_34 rfl rfl rfl f.i f.r ?_
  replace f := f.mono (t' := 344) (Nat.le_succ _)
  refine a_s rfl rfl ?_
  refine a_mIN rfl lX11_36 mo_X5_init (sp_X5_init (by first | assumption | (simp (disch := omega) only [upK_self, hK, upK_ne, oldX1, oldX0, oldX2, oldX7, oldX9, oldX5, oldX8_3, oldX8_6, oldX6, oldX3]) | (simp (disch := omega) only [upK_ne, upK_self, hK, upK_ne, oldX1, oldX0, oldX2, oldX7, oldX9, oldX5, oldX8_3, oldX8_6, oldX6, oldX3])) (by decide) (by decide) f) rfl rfl rfl rfl ?_
  replace f := frX5 (q := 343) f (by decide)
  refine a_aast (n := 12) rfl (by first | assumption | (simp (disch := omega) only [upK_self, hK, upK_ne, oldX1, oldX0, oldX2, oldX7, oldX9, oldX5, oldX8_3, oldX8_6, oldX6, oldX3]) | (simp (disch := omega) only [upK_ne, upK_self, hK, upK_ne, oldX1, oldX0, oldX2, oldX7, oldX9, oldX5, oldX8_3, oldX8_6, oldX6, oldX3])) (by first | assumption | (simp (disch := omega) only [upK_self, hK, upK_ne, oldX1, oldX0, oldX2, oldX7, oldX9, oldX5, oldX8_3, oldX8_6, oldX6, oldX3]) | (simp (disch := omega) only [upK_ne, upK_self, hK, upK_ne, oldX1, oldX0, oldX2, oldX7, oldX9, oldX5, oldX8_3, oldX8_6, oldX6, oldX3])) ⟨by decide, by decide⟩ ?_
  replace f := f.putR (q := 287) (k := 5) (v := 343 + 1) (by decide)
  refine a_i1 rfl rfl rfl ?_
  refine a_goto rfl ?_
  refine a_l1 rfl rfl rfl ?_
  refine a_l0 rfl rfl rfl ?_
  refine a_getq (q := 287) rfl gfX11_64_11 (by first | assumption | (simp (disch := omega) only [upK_self, hK, upK_ne, oldX1, oldX0, oldX2, oldX7, oldX9, oldX5, oldX8_3, oldX8_6, oldX6, oldX3]) | (simp (disch := omega) only [upK_ne, upK_self, hK, upK_ne, oldX1, oldX0, oldX2, oldX7, oldX9, oldX5, oldX8_3, oldX8_6, oldX6, oldX3])) (by simp (disch := decide) only [up2_at, up2_ne, up2_row, rowX1, rowX0, rowX2, rowX7, rowX9, rowX5, rowX8_3, rowX8_6, rowX6, rowX3]) ?_
  refine a_len (tt := 3) (n := 12) rfl (by first | assumption | (simp (disch := omega) only [upK_self, hK, upK_ne, oldX1, oldX0, oldX2, oldX7, oldX9, oldX5, oldX8_3, oldX8_6, oldX6, oldX3]) | (simp (disch := omega) only [upK_ne, upK_self, hK, upK_ne, oldX1, oldX0, oldX2, oldX7, oldX9, oldX5, oldX8_3, oldX8_6, oldX6, oldX3])) rfl rfl ?_
  refine a_ic_ge rfl (fun c => absurd c (by decide)) (fun c => ?_)
  refine a_l0 rfl rfl rfl ?_
  refine a_getq (q := 287) rfl gfX11_64_11 (by first | assumption | (simp (disch := omega) only [upK_self, hK, upK_ne, oldX1, oldX0, oldX2, oldX7, oldX9, oldX5, oldX8_3, oldX8_6, oldX6, oldX3]) | (simp (disch := omega) only [upK_ne, upK_self, hK, upK_ne, oldX1, oldX0, oldX2, oldX7, oldX9, oldX5, oldX8_3, oldX8_6, oldX6, oldX3])) (by simp (disch := decide) only [up2_at, up2_ne, up2_row, rowX1, rowX0, rowX2, rowX7, rowX9, rowX5, rowX8_3, rowX8_6, rowX6, rowX3]) ?_
  refine a_l1 rfl rfl rfl ?_
  refine a_new rfl nX11_34 rfl rfl rfl f.i f.r ?_
  replace f := f.mono (t' := 355) (Nat.le_succ _)
  refine a_s rfl rfl ?_
  refine a_mIN rfl lX11_36 mo_X5_init (sp_X5_init (by first | assumption | (simp (disch := omega) only [upK_self, hK, upK_ne, oldX1, oldX0, oldX2, oldX7, oldX9, oldX5, oldX8_3, oldX8_6, oldX6, oldX3]) | (simp (disch := omega) only [upK_ne, upK_self, hK, upK_ne, oldX1, oldX0, oldX2, oldX7, oldX9, oldX5, oldX8_3, oldX8_6, oldX6, oldX3])) (by decide) (by decide) f) rfl rfl rfl rfl ?_
  replace f := frX5 (q := 354) f (by decide)
  refine a_aast (n := 12) rfl (by first | assumption | (simp (disch := omega) only [upK_self, hK, upK_ne, oldX1, oldX0, oldX2, oldX7, oldX9, oldX5, oldX8_3, oldX8_6, oldX6, oldX3]) | (simp (disch := omega) only [upK_ne, upK_self, hK, upK_ne, oldX1, oldX0, oldX2, oldX7, oldX9, oldX5, oldX8_3, oldX8_6, oldX6, oldX3])) (by first | assumption | (simp (disch := omega) only [upK_self, hK, upK_ne, oldX1, oldX0, oldX2, oldX7, oldX9, oldX5, oldX8_3, oldX8_6, oldX6, oldX3]) | (simp (disch := omega) only [upK_ne, upK_self, hK, upK_ne, oldX1, oldX0, oldX2, oldX7, oldX9, oldX5, oldX8_3, oldX8_6, oldX6, oldX3])) ⟨by decide, by decide⟩ ?_
  replace f := f.putR (q := 287) (k := 6) (v := 354 + 1) (by decide)
  refine a_i1 rfl rfl rfl ?_
  refine a_goto rfl ?_
  refine a_l1 rfl rfl rfl ?_
  refine a_l0 rfl rfl rfl ?_
  refine a_getq (q := 287) rfl gfX11_64_11 (by first | assumption | (simp (disch := omega) only [upK_self, hK, upK_ne, oldX1, oldX0, oldX2, oldX7, oldX9, oldX5, oldX8_3, oldX8_6, oldX6, oldX3]) | (simp (disch := omega) only [upK_ne, upK_self, hK, upK_ne, oldX1, oldX0, oldX2, oldX7, oldX9, oldX5, oldX8_3, oldX8_6, oldX6, oldX3])) (by simp (disch := decide) only [up2_at, up2_ne, up2_row, rowX1, rowX0, rowX2, rowX7, rowX9, rowX5, rowX8_3, rowX8_6, rowX6, rowX3]) ?_
  refine a_len (tt := 3) (n := 12) rfl (by first | assumption | (simp (disch := omega) only [upK_self, hK, upK_ne, oldX1, oldX0, oldX2, oldX7, oldX9, oldX5, oldX8_3, oldX8_6, oldX6, oldX3]) | (simp (disch := omega) only [upK_ne, upK_self, hK, upK_ne, oldX1, oldX0, oldX2, oldX7, oldX9, oldX5, oldX8_3, oldX8_6, oldX6, oldX3])) rfl rfl ?_
  refine a_ic_ge rfl (fun c => absurd c (by decide)) (fun c => ?_)
  refine a_l0 rfl rfl rfl ?_
  refine a_getq (q := 287) rfl gfX11_64_11 (by first | assumption | (simp (disch := omega) only [upK_self, hK, upK_ne, oldX1, oldX0, oldX2, oldX7, oldX9, oldX5, oldX8_3, oldX8_6, oldX6, oldX3]) | (simp (disch := omega) only [upK_ne, upK_self, hK, upK_ne, oldX1, oldX0, oldX2, oldX7, oldX9, oldX5, oldX8_3, oldX8_6, oldX6, oldX3])) (by simp (disch := decide) only [up2_at, up2_ne, up2_row, rowX1, rowX0, rowX2, rowX7, rowX9, rowX5, rowX8_3, rowX8_6, rowX6, rowX3]) ?_
  refine a_l1 rfl rfl rfl ?_
  refine a_new rfl nX11_34 rfl rfl rfl f.i f.r ?_
  replace f := f.mono (t' := 366) (Nat.le_succ _)
  refine a_s rfl rfl ?_
  refine a_mIN rfl lX11_36 mo_X5_init (sp_X5_init (by first | assumption | (simp (disch := omega) only [upK_self, hK, upK_ne, oldX1, oldX0, oldX2, oldX7, oldX9, oldX5, oldX8_3, oldX8_6, oldX6, oldX3]) | (simp (disch := omega) only [upK_ne, upK_self, hK, upK_ne, oldX1, oldX0, oldX2, oldX7, oldX9, oldX5, oldX8_3, oldX8_6, oldX6, oldX3])) (by decide) (by decide) f) rfl rfl rfl rfl ?_
  replace f := frX5 (q := 365) f (by decide)
  refine a_aast (n := 12) rfl (by first | assumption | (simp (disch := omega) only [upK_self, hK, upK_ne, oldX1, oldX0, oldX2, oldX7, oldX9, oldX5, oldX8_3, oldX8_6, oldX6, oldX3]) | (simp (disch := omega) only [upK_ne, upK_self, hK, upK_ne, oldX1, oldX0, oldX2, oldX7, oldX9, oldX5, oldX8_3, oldX8_6, oldX6, oldX3])) (by first | assumption | (simp (disch := omega) only [upK_self, hK, upK_ne, oldX1, oldX0, oldX2, oldX7, oldX9, oldX5, oldX8_3, oldX8_6, oldX6, oldX3]) | (simp (disch := omega) only [upK_ne, upK_self, hK, upK_ne, oldX1, oldX0, oldX2, oldX7, oldX9, oldX5, oldX8_3, oldX8_6, oldX6, oldX3])) ⟨by decide, by decide⟩ ?_
  replace f := f.putR (q := 287) (k := 7) (v := 365 + 1) (by decide)
  refine a_i1 rfl rfl rfl ?_
  refine a_goto rfl ?_
  refine a_l1 rfl rfl rfl ?_
  refine a_l0 rfl rfl rfl ?_
  refine a_getq (q := 287) rfl gfX11_64_11 (by first | assumption | (simp (disch := omega) only [upK_self, hK, upK_ne, oldX1, oldX0, oldX2, oldX7, oldX9, oldX5, oldX8_3, oldX8_6, oldX6, oldX3]) | (simp (disch := omega) only [upK_ne, upK_self, hK, upK_ne, oldX1, oldX0, oldX2, oldX7, oldX9, oldX5, oldX8_3, oldX8_6, oldX6, oldX3])) (by simp (disch := decide) only [up2_at, up2_ne, up2_row, rowX1, rowX0, rowX2, rowX7, rowX9, rowX5, rowX8_3, rowX8_6, rowX6, rowX3]) ?_
  refine a_len (tt := 3) (n := 12) rfl (by first | assumption | (simp (disch := omega) only [upK_self, hK, upK_ne, oldX1, oldX0, oldX2, oldX7, oldX9, oldX5, oldX8_3, oldX8_6, oldX6, oldX3]) | (simp (disch := omega) only [upK_ne, upK_self, hK, upK_ne, oldX1, oldX0, oldX2, oldX7, oldX9, oldX5, oldX8_3, oldX8_6, oldX6, oldX3])) rfl rfl ?_
  refine a_ic_ge rfl (fun c => absurd c (by decide)) (fun c => ?_)
  refine a_l0 rfl rfl rfl ?_
  refine a_getq (q := 287) rfl gfX11_64_11 (by first | assumption | (simp (disch := omega) only [upK_self, hK, upK_ne, oldX1, oldX0, oldX2, oldX7, oldX9, oldX5, oldX8_3, oldX8_6, oldX6, oldX3]) | (simp (disch := omega) only [upK_ne, upK_self, hK, upK_ne, oldX1, oldX0, oldX2, oldX7, oldX9, oldX5, oldX8_3, oldX8_6, oldX6, oldX3])) (by simp (disch := decide) only [up2_at, up2_ne, up2_row, rowX1, rowX0, rowX2, rowX7, rowX9, rowX5, rowX8_3, rowX8_6, rowX6, rowX3]) ?_
  refine a_l1 rfl rfl rfl ?_
  refine a_new rfl nX11_34 rfl rfl rfl f.i f.r ?_
  replace f := f.mono (t' := 377) (Nat.le_succ _)
  refine a_s rfl rfl ?_
  refine a_mIN rfl lX11_36 mo_X5_init (sp_X5_init (by first | assumption | (simp (disch := omega) only [upK_self, hK, upK_ne, oldX1, oldX0, oldX2, oldX7, oldX9, oldX5, oldX8_3, oldX8_6, oldX6, oldX3]) | (simp (disch := omega) only [upK_ne, upK_self, hK, upK_ne, oldX1, oldX0, oldX2, oldX7, oldX9, oldX5, oldX8_3, oldX8_6, oldX6, oldX3])) (by decide) (by decide) f) rfl rfl rfl rfl ?_
  replace f := frX5 (q := 376) f (by decide)
  refine a_aast (n := 12) rfl (by first | assumption | (simp (disch := omega) only [upK_self, hK, upK_ne, oldX1, oldX0, oldX2, oldX7, oldX9, oldX5, oldX8_3, oldX8_6, oldX6, oldX3]) | (simp (disch := omega) only [upK_ne, upK_self, hK, upK_ne, oldX1, oldX0, oldX2, oldX7, oldX9, oldX5, oldX8_3, oldX8_6, oldX6, oldX3])) (by first | assumption | (simp (disch := omega) only [upK_self, hK, upK_ne, oldX1, oldX0, oldX2, oldX7, oldX9, oldX5, oldX8_3, oldX8_6, oldX6, oldX3]) | (simp (disch := omega) only [upK_ne, upK_self, hK, upK_ne, oldX1, oldX0, oldX2, oldX7, oldX9, oldX5, oldX8_3, oldX8_6, oldX6, oldX3])) ⟨by decide, by decide⟩ ?_
  replace f := f.putR (q := 287) (k := 8) (v := 376 + 1) (by decide)
  refine a_i1 rfl rfl rfl ?_
  refine a_goto rfl ?_
  refine a_l1 rfl rfl rfl ?_
  refine a_l0 rfl rfl rfl ?_
  refine a_getq (q := 287) rfl gfX11_64_11 (by first | assumption | (simp (disch := omega) only [upK_self, hK, upK_ne, oldX1, oldX0, oldX2, oldX7, oldX9, oldX5, oldX8_3, oldX8_6, oldX6, oldX3]) | (simp (disch := omega) only [upK_ne, upK_self, hK, upK_ne, oldX1, oldX0, oldX2, oldX7, oldX9, oldX5, oldX8_3, oldX8_6, oldX6, oldX3])) (by simp (disch := decide) only [up2_at, up2_ne, up2_row, rowX1, rowX0, rowX2, rowX7, rowX9, rowX5, rowX8_3, rowX8_6, rowX6, rowX3]) ?_
  refine a_len (tt := 3) (n := 12) rfl (by first | assumption | (simp (disch := omega) only [upK_self, hK, upK_ne, oldX1, oldX0, oldX2, oldX7, oldX9, oldX5, oldX8_3, oldX8_6, oldX6, oldX3]) | (simp (disch := omega) only [upK_ne, upK_self, hK, upK_ne, oldX1, oldX0, oldX2, oldX7, oldX9, oldX5, oldX8_3, oldX8_6, oldX6, oldX3])) rfl rfl ?_
  refine a_ic_ge rfl (fun c => absurd c (by decide)) (fun c => ?_)
  refine a_l0 rfl rfl rfl ?_
  refine a_getq (q := 287) rfl gfX11_64_11 (by first | assumption | (simp (disch := omega) only [upK_self, hK, upK_ne, oldX1, oldX0, oldX2, oldX7, oldX9, oldX5, oldX8_3, oldX8_6, oldX6, oldX3]) | (simp (disch := omega) only [upK_ne, upK_self, hK, upK_ne, oldX1, oldX0, oldX2, oldX7, oldX9, oldX5, oldX8_3, oldX8_6, oldX6, oldX3])) (by simp (disch := decide) only [up2_at, up2_ne, up2_row, rowX1, rowX0, rowX2, rowX7, rowX9, rowX5, rowX8_3, rowX8_6, rowX6, rowX3]) ?_
  refine a_l1 rfl rfl rfl ?_
  refine a_new rfl nX11_34 rfl rfl rfl f.i f.r ?_
  replace f := f.mono (t' := 388) (Nat.le_succ _)
  refine a_s rfl rfl ?_
  refine a_mIN rfl lX11_36 mo_X5_init (sp_X5_init (by first | assumption | (simp (disch := omega) only [upK_self, hK, upK_ne, oldX1, oldX0, oldX2, oldX7, oldX9, oldX5, oldX8_3, oldX8_6, oldX6, oldX3]) | (simp (disch := omega) only [upK_ne, upK_self, hK, upK_ne, oldX1, oldX0, oldX2, oldX7, oldX9, oldX5, oldX8_3, oldX8_6, oldX6, oldX3])) (by decide) (by decide) f) rfl rfl rfl rfl ?_
  replace f := frX5 (q := 387) f (by decide)
  refine a_aast (n := 12) rfl (by first | assumption | (simp (disch := omega) only [upK_self, hK, upK_ne, oldX1, oldX0, oldX2, oldX7, oldX9, oldX5, oldX8_3, oldX8_6, oldX6, oldX3]) | (simp (disch := omega) only [upK_ne, upK_self, hK, upK_ne, oldX1, oldX0, oldX2, oldX7, oldX9, oldX5, oldX8_3, oldX8_6, oldX6, oldX3])) (by first | assumption | (simp (disch := omega) only [upK_self, hK, upK_ne, oldX1, oldX0, oldX2, oldX7, oldX9, oldX5, oldX8_3, oldX8_6, oldX6, oldX3]) | (simp (disch := omega) only [upK_ne, upK_self, hK, upK_ne, oldX1, oldX0, oldX2, oldX7, oldX9, oldX5, oldX8_3, oldX8_6, oldX6, oldX3])) ⟨by decide, by decide⟩ ?_
  replace f := f.putR (q := 287) (k := 9) (v := 387 + 1) (by decide)
  refine a_i1 rfl rfl rfl ?_
  refine a_goto rfl ?_
  refine a_l1 rfl rfl rfl ?_
  refine a_l0 rfl rfl rfl ?_
  refine a_getq (q := 287) rfl gfX11_64_11 (by first | assumption | (simp (disch := omega) only [upK_self, hK, upK_ne, oldX1, oldX0, oldX2, oldX7, oldX9, oldX5, oldX8_3, oldX8_6, oldX6, oldX3]) | (simp (disch := omega) only [upK_ne, upK_self, hK, upK_ne, oldX1, oldX0, oldX2, oldX7, oldX9, oldX5, oldX8_3, oldX8_6, oldX6, oldX3])) (by simp (disch := decide) only [up2_at, up2_ne, up2_row, rowX1, rowX0, rowX2, rowX7, rowX9, rowX5, rowX8_3, rowX8_6, rowX6, rowX3]) ?_
  refine a_len (tt := 3) (n := 12) rfl (by first | assumption | (simp (disch := omega) only [upK_self, hK, upK_ne, oldX1, oldX0, oldX2, oldX7, oldX9, oldX5, oldX8_3, oldX8_6, oldX6, oldX3]) | (simp (disch := omega) only [upK_ne, upK_self, hK, upK_ne, oldX1, oldX0, oldX2, oldX7, oldX9, oldX5, oldX8_3, oldX8_6, oldX6, oldX3])) rfl rfl ?_
  refine a_ic_ge rfl (fun c => absurd c (by decide)) (fun c => ?_)
  refine a_l0 rfl rfl rfl ?_
  refine a_getq (q := 287) rfl gfX11_64_11 (by first | assumption | (simp (disch := omega) only [upK_self, hK, upK_ne, oldX1, oldX0, oldX2, oldX7, oldX9, oldX5, oldX8_3, oldX8_6, oldX6, oldX3]) | (simp (disch := omega) only [upK_ne, upK_self, hK, upK_ne, oldX1, oldX0, oldX2, oldX7, oldX9, oldX5, oldX8_3, oldX8_6, oldX6, oldX3])) (by simp (disch := decide) only [up2_at, up2_ne, up2_row, rowX1, rowX0, rowX2, rowX7, rowX9, rowX5, rowX8_3, rowX8_6, rowX6, rowX3]) ?_
  refine a_l1 rfl rfl rfl ?_
  refine a_new rfl nX11_34 rfl rfl rfl f.i f.r ?_
  replace f := f.mono (t' := 399) (Nat.le_succ _)
  refine a_s rfl rfl ?_
  refine a_mIN rfl lX11_36 mo_X5_init (sp_X5_init (by first | assumption | (simp (disch := omega) only [upK_self, hK, upK_ne, oldX1, oldX0, oldX2, oldX7, oldX9, oldX5, oldX8_3, oldX8_6, oldX6, oldX3]) | (simp (disch := omega) only [upK_ne, upK_self, hK, upK_ne, oldX1, oldX0, oldX2, oldX7, oldX9, oldX5, oldX8_3, oldX8_6, oldX6, oldX3])) (by decide) (by decide) f) rfl rfl rfl rfl ?_
  replace f := frX5 (q := 398) f (by decide)
  refine a_aast (n := 12) rfl (by first | assumption | (simp (disch := omega) only [upK_self, hK, upK_ne, oldX1, oldX0, oldX2, oldX7, oldX9, oldX5, oldX8_3, oldX8_6, oldX6, oldX3]) | (simp (disch := omega) only [upK_ne, upK_self, hK, upK_ne, oldX1, oldX0, oldX2, oldX7, oldX9, oldX5, oldX8_3, oldX8_6, oldX6, oldX3])) (by first | assumption | (simp (disch := omega) only [upK_self, hK, upK_ne, oldX1, oldX0, oldX2, oldX7, oldX9, oldX5, oldX8_3, oldX8_6, oldX6, oldX3]) | (simp (disch := omega) only [upK_ne, upK_self, hK, upK_ne, oldX1, oldX0, oldX2, oldX7, oldX9, oldX5, oldX8_3, oldX8_6, oldX6, oldX3])) ⟨by decide, by decide⟩ ?_
  replace f := f.putR (q := 287) (k := 10) (v := 398 + 1) (by decide)
  refine a_i1 rfl rfl rfl ?_
  refine a_goto rfl ?_
  refine a_l1 rfl rfl rfl ?_
  refine a_l0 rfl rfl rfl ?_
  refine a_getq (q := 287) rfl gfX11_64_11 (by first | assumption | (simp (disch := omega) only [upK_self, hK, upK_ne, oldX1, oldX0, oldX2, oldX7, oldX9, oldX5, oldX8_3, oldX8_6, oldX6, oldX3]) | (simp (disch := omega) only [upK_ne, upK_self, hK, upK_ne, oldX1, oldX0, oldX2, oldX7, oldX9, oldX5, oldX8_3, oldX8_6, oldX6, oldX3])) (by simp (disch := decide) only [up2_at, up2_ne, up2_row, rowX1, rowX0, rowX2, rowX7, rowX9, rowX5, rowX8_3, rowX8_6, rowX6, rowX3]) ?_
  refine a_len (tt := 3) (n := 12) rfl (by first | assumption | (simp (disch := omega) only [upK_self, hK, upK_ne, oldX1, oldX0, oldX2, oldX7, oldX9, oldX5, oldX8_3, oldX8_6, oldX6, oldX3]) | (simp (disch := omega) only [upK_ne, upK_self, hK, upK_ne, oldX1, oldX0, oldX2, oldX7, oldX9, oldX5, oldX8_3, oldX8_6, oldX6, oldX3])) rfl rfl ?_
  refine a_ic_ge rfl (fun c => absurd c (by decide)) (fun c => ?_)
  refine a_l0 rfl rfl rfl ?_
  refine a_getq (q := 287) rfl gfX11_64_11 (by first | assumption | (simp (disch := omega) only [upK_self, hK, upK_ne, oldX1, oldX0, oldX2, oldX7, oldX9, oldX5, oldX8_3, oldX8_6, oldX6, oldX3]) | (simp (disch := omega) only [upK_ne, upK_self, hK, upK_ne, oldX1, oldX0, oldX2, oldX7, oldX9, oldX5, oldX8_3, oldX8_6, oldX6, oldX3])) (by simp (disch := decide) only [up2_at, up2_ne, up2_row, rowX1, rowX0, rowX2, rowX7, rowX9, rowX5, rowX8_3, rowX8_6, rowX6, rowX3]) ?_
  refine a_l1 rfl rfl rfl ?_
  refine a_new rfl nX11_34 rfl rfl rfl f.i f.r ?_
  replace f := f.mono (t' := 410) (Nat.le_succ _)
  refine a_s rfl rfl ?_
  refine a_mIN rfl lX11_36 mo_X5_init (sp_X5_init (by first | assumption | (simp (disch := omega) only [upK_self, hK, upK_ne, oldX1, oldX0, oldX2, oldX7, oldX9, oldX5, oldX8_3, oldX8_6, oldX6, oldX3]) | (simp (disch := omega) only [upK_ne, upK_self, hK, upK_ne, oldX1, oldX0, oldX2, oldX7, oldX9, oldX5, oldX8_3, oldX8_6, oldX6, oldX3])) (by decide) (by decide) f) rfl rfl rfl rfl ?_
  replace f := frX5 (q := 409) f (by decide)
  refine a_aast (n := 12) rfl (by first | assumption | (simp (disch := omega) only [upK_self, hK, upK_ne, oldX1, oldX0, oldX2, oldX7, oldX9, oldX5, oldX8_3, oldX8_6, oldX6, oldX3]) | (simp (disch := omega) only [upK_ne, upK_self, hK, upK_ne, oldX1, oldX0, oldX2, oldX7, oldX9, oldX5, oldX8_3, oldX8_6, oldX6, oldX3])) (by first | assumption | (simp (disch := omega) only [upK_self, hK, upK_ne, oldX1, oldX0, oldX2, oldX7, oldX9, oldX5, oldX8_3, oldX8_6, oldX6, oldX3]) | (simp (disch := omega) only [upK_ne, upK_self, hK, upK_ne, oldX1, oldX0, oldX2, oldX7, oldX9, oldX5, oldX8_3, oldX8_6, oldX6, oldX3])) ⟨by decide, by decide⟩ ?_
  replace f := f.putR (q := 287) (k := 11) (v := 409 + 1) (by decide)
  refine a_i1 rfl rfl rfl ?_
  refine a_goto rfl ?_
  refine a_l1 rfl rfl rfl ?_
  refine a_l0 rfl rfl rfl ?_
  refine a_getq (q := 287) rfl gfX11_64_11 (by first | assumption | (simp (disch := omega) only [upK_self, hK, upK_ne, oldX1, oldX0, oldX2, oldX7, oldX9, oldX5, oldX8_3, oldX8_6, oldX6, oldX3]) | (simp (disch := omega) only [upK_ne, upK_self, hK, upK_ne, oldX1, oldX0, oldX2, oldX7, oldX9, oldX5, oldX8_3, oldX8_6, oldX6, oldX3])) (by simp (disch := decide) only [up2_at, up2_ne, up2_row, rowX1, rowX0, rowX2, rowX7, rowX9, rowX5, rowX8_3, rowX8_6, rowX6, rowX3]) ?_
  refine a_len (tt := 3) (n := 12) rfl (by first | assumption | (simp (disch := omega) only [upK_self, hK, upK_ne, oldX1, oldX0, oldX2, oldX7, oldX9, oldX5, oldX8_3, oldX8_6, oldX6, oldX3]) | (simp (disch := omega) only [upK_ne, upK_self, hK, upK_ne, oldX1, oldX0, oldX2, oldX7, oldX9, oldX5, oldX8_3, oldX8_6, oldX6, oldX3])) rfl rfl ?_
  refine a_ic_ge rfl (fun c => ?_) (fun c => absurd (by decide) c)
  exact a_vret rfl rfl ⟨rfl, rfl⟩
def kX12 (K : Nat → Nat × Nat) : Nat → Nat × Nat := upK (upK (upK (upK (upK (upK (upK (upK (upK (upK K 421 (2, 2033)) 422 (2, 1184)) 423 (2, 1184)) 424 (2, 335)) 425 (2, 4020)) 426 (3, 400)) 427 (2, 5)) 428 (2, 400)) 429 (2, 6)) 430 (4, 7)
def iX12 (I : Nat → Nat → Int32) : Nat → Nat → Int32 := up2 (up2 (up2 (up2 (up2 I 420 14 (-1)) 421 4 1) 421 7 2) 421 8 3) 421 10 1
def rX12 (R : Nat → Nat → Nat) : Nat → Nat → Nat := up2 (up2 (up2 (up2 (up2 (up2 (up2 (up2 (up2 (up2 R 420 1 (421 + 1)) 420 2 (422 + 1)) 420 3 (423 + 1)) 420 4 (424 + 1)) 420 5 (425 + 1)) 420 8 (426 + 1)) 420 15 (427 + 1)) 420 17 (428 + 1)) 420 18 (429 + 1)) 420 19 (430 + 1)
theorem oldX12 {K : Nat → Nat × Nat} {p : Nat} (h : p < 421) : kX12 K p = K p := by
  unfold kX12
  simp (disch := omega) only [upK_ne, oldX1, oldX0, oldX2, oldX7, oldX9, oldX5, oldX8_3, oldX8_6, oldX6, oldX3, oldX11]
theorem frX12 {I : Nat → Nat → Int32} {L : Nat → Nat → Int64} {R : Nat → Nat → Nat} {z : Nat} (f : Fr I L R 421) : Fr (iX12 I) L (rX12 R) 431 := by
  unfold iX12 rX12
  exact ((((((Fr.mono (t' := 431) ((Fr.mono (t' := 430) ((Fr.mono (t' := 429) ((Fr.mono (t' := 428) (((Fr.mono (t' := 427) ((Fr.mono (t' := 426) ((Fr.mono (t' := 425) ((Fr.mono (t' := 424) ((Fr.mono (t' := 423) ((Fr.mono (t' := 422) f (Nat.le_succ _)).putR (by decide)) (Nat.le_succ _)).putR (by decide)) (Nat.le_succ _)).putR (by decide)) (Nat.le_succ _)).putR (by decide)) (Nat.le_succ _)).putR (by decide)) (Nat.le_succ _)).putR (by decide)).putI (by decide)) (Nat.le_succ _)).putR (by decide)) (Nat.le_succ _)).putR (by decide)) (Nat.le_succ _)).putR (by decide)) (Nat.le_succ _)).putR (by decide)).putI (by decide)).putI (by decide)).putI (by decide)).putI (by decide))
theorem sp_X12_init {S : aS} {K : Nat → Nat × Nat} {I : Nat → Nat → Int32} {L : Nat → Nat → Int64} {R : Nat → Nat → Nat} (hK : K 420 = (1, 12)) (f : Fr I L R 421) : SpM S m_X12_init 12 10 9574 [.ref 420] (K, I, L, R, 421) (kX12 K, iX12 I, L, rX12 R, 431) := by
  refine SpM_of ok_X12_init rfl rfl ?_
  refine a_l0 rfl rfl rfl ?_
  refine a_objinit rfl lX12_7 oi_1 oi_2 rfl rfl ?_
  refine a_l0 rfl rfl rfl ?_
  refine a_s rfl rfl ?_
  refine a_newarr (N := 2033) (tg := 0) rfl rfl rfl ar_int (by decide) (by decide) rfl rfl rfl rfl f.i f.l ?_
  replace f := f.mono (t' := 422) (Nat.le_succ _)
  refine a_putq rfl pfX12_13_12 (by first | assumption | (simp (disch := omega) only [upK_self, hK, upK_ne, oldX1, oldX0, oldX2, oldX7, oldX9, oldX5, oldX8_3, oldX8_6, oldX6, oldX3, oldX11]) | (simp (disch := omega) only [upK_ne, upK_self, hK, upK_ne, oldX1, oldX0, oldX2, oldX7, oldX9, oldX5, oldX8_3, oldX8_6, oldX6, oldX3, oldX11])) ?_
  replace f := f.putR (q := 420) (k := 1) (v := 421 + 1) (by decide)
  refine a_l0 rfl rfl rfl ?_
  refine a_s rfl rfl ?_
  refine a_newarr (N := 1184) (tg := 0) rfl rfl rfl ar_int (by decide) (by decide) rfl rfl rfl rfl f.i f.l ?_
  replace f := f.mono (t' := 423) (Nat.le_succ _)
  refine a_putq rfl pfX12_17_12 (by first | assumption | (simp (disch := omega) only [upK_self, hK, upK_ne, oldX1, oldX0, oldX2, oldX7, oldX9, oldX5, oldX8_3, oldX8_6, oldX6, oldX3, oldX11]) | (simp (disch := omega) only [upK_ne, upK_self, hK, upK_ne, oldX1, oldX0, oldX2, oldX7, oldX9, oldX5, oldX8_3, oldX8_6, oldX6, oldX3, oldX11])) ?_
  replace f := f.putR (q := 420) (k := 2) (v := 422 + 1) (by decide)
  refine a_l0 rfl rfl rfl ?_
  refine a_s rfl rfl ?_
  refine a_newarr (N := 1184) (tg := 0) rfl rfl rfl ar_int (by decide) (by decide) rfl rfl rfl rfl f.i f.l ?_
  replace f := f.mono (t' := 424) (Nat.le_succ _)
  refine a_putq rfl pfX12_20_12 (by first | assumption | (simp (disch := omega) only [upK_self, hK, upK_ne, oldX1, oldX0, oldX2, oldX7, oldX9, oldX5, oldX8_3, oldX8_6, oldX6, oldX3, oldX11]) | (simp (disch := omega) only [upK_ne, upK_self, hK, upK_ne, oldX1, oldX0, oldX2, oldX7, oldX9, oldX5, oldX8_3, oldX8_6, oldX6, oldX3, oldX11])) ?_
  replace f := f.putR (q := 420) (k := 3) (v := 423 + 1) (by decide)
  refine a_l0 rfl rfl rfl ?_
  refine a_s rfl rfl ?_
  refine a_newarr (N := 335) (tg := 0) rfl rfl rfl ar_int (by decide) (by decide) rfl rfl rfl rfl f.i f.l ?_
  replace f := f.mono (t' := 425) (Nat.le_succ _)
  refine a_putq rfl pfX12_23_12 (by first | assumption | (simp (disch := omega) only [upK_self, hK, upK_ne, oldX1, oldX0, oldX2, oldX7, oldX9, oldX5, oldX8_3, oldX8_6, oldX6, oldX3, oldX11]) | (simp (disch := omega) only [upK_ne, upK_self, hK, upK_ne, oldX1, oldX0, oldX2, oldX7, oldX9, oldX5, oldX8_3, oldX8_6, oldX6, oldX3, oldX11])) ?_
  replace f := f.putR (q := 420) (k := 4) (v := 424 + 1) (by decide)
  refine a_l0 rfl rfl rfl ?_
  refine a_s rfl rfl ?_
  refine a_newarr (N := 4020) (tg := 0) rfl rfl rfl ar_int (by decide) (by decide) rfl rfl rfl rfl f.i f.l ?_
  replace f := f.mono (t' := 426) (Nat.le_succ _)
  refine a_putq rfl pfX12_26_12 (by first | assumption | (simp (disch := omega) only [upK_self, hK, upK_ne, oldX1, oldX0, oldX2, oldX7, oldX9, oldX5, oldX8_3, oldX8_6, oldX6, oldX3, oldX11]) | (simp (disch := omega) only [upK_ne, upK_self, hK, upK_ne, oldX1, oldX0, oldX2, oldX7, oldX9, oldX5, oldX8_3, oldX8_6, oldX6, oldX3, oldX11])) ?_
  replace f := f.putR (q := 420) (k := 5) (v := 425 + 1) (by decide)
  refine a_l0 rfl rfl rfl ?_
  refine a_s rfl rfl ?_
  refine a_newarr (N := 400) (tg := 1) rfl rfl rfl ar_byte (by decide) (by decide) rfl rfl rfl rfl f.i f.l ?_
  replace f := f.mono (t' := 427) (Nat.le_succ _)
  refine a_putq rfl pfX12_29_12 (by first | assumption | (simp (disch := omega) only [upK_self, hK, upK_ne, oldX1, oldX0, oldX2, oldX7, oldX9, oldX5, oldX8_3, oldX8_6, oldX6, oldX3, oldX11]) | (simp (disch := omega) only [upK_ne, upK_self, hK, upK_ne, oldX1, oldX0, oldX2, oldX7, oldX9, oldX5, oldX8_3, oldX8_6, oldX6, oldX3, oldX11])) ?_
  replace f := f.putR (q := 420) (k := 8) (v := 426 + 1) (by decide)
  refine a_l0 rfl rfl rfl ?_
  refine a_s rfl rfl ?_
  refine a_puti rfl pfX12_33_12 (by first | assumption | (simp (disch := omega) only [upK_self, hK, upK_ne, oldX1, oldX0, oldX2, oldX7, oldX9, oldX5, oldX8_3, oldX8_6, oldX6, oldX3, oldX11]) | (simp (disch := omega) only [upK_ne, upK_self, hK, upK_ne, oldX1, oldX0, oldX2, oldX7, oldX9, oldX5, oldX8_3, oldX8_6, oldX6, oldX3, oldX11])) ?_
  replace f := f.putI (q := 420) (k := 14) (v := (-1)) (by decide)
  refine a_l0 rfl rfl rfl ?_
  refine a_s rfl rfl ?_
  refine a_newarr (N := 5) (tg := 0) rfl rfl rfl ar_int (by decide) (by decide) rfl rfl rfl rfl f.i f.l ?_
  replace f := f.mono (t' := 428) (Nat.le_succ _)
  refine a_putq rfl pfX12_36_12 (by first | assumption | (simp (disch := omega) only [upK_self, hK, upK_ne, oldX1, oldX0, oldX2, oldX7, oldX9, oldX5, oldX8_3, oldX8_6, oldX6, oldX3, oldX11]) | (simp (disch := omega) only [upK_ne, upK_self, hK, upK_ne, oldX1, oldX0, oldX2, oldX7, oldX9, oldX5, oldX8_3, oldX8_6, oldX6, oldX3, oldX11])) ?_
  replace f := f.putR (q := 420) (k := 15) (v := 427 + 1) (by decide)
  refine a_l0 rfl rfl rfl ?_
  refine a_s rfl rfl ?_
  refine a_newarr (N := 400) (tg := 0) rfl rfl rfl ar_int (by decide) (by decide) rfl rfl rfl rfl f.i f.l ?_
  replace f := f.mono (t' := 429) (Nat.le_succ _)
  refine a_putq rfl pfX12_39_12 (by first | assumption | (simp (disch := omega) only [upK_self, hK, upK_ne, oldX1, oldX0, oldX2, oldX7, oldX9, oldX5, oldX8_3, oldX8_6, oldX6, oldX3, oldX11]) | (simp (disch := omega) only [upK_ne, upK_self, hK, upK_ne, oldX1, oldX0, oldX2, oldX7, oldX9, oldX5, oldX8_3, oldX8_6, oldX6, oldX3, oldX11])) ?_
  replace f := f.putR (q := 420) (k := 17) (v := 428 + 1) (by decide)
  refine a_l0 rfl rfl rfl ?_
  refine a_s rfl rfl ?_
  refine a_newarr (N := 6) (tg := 0) rfl rfl rfl ar_int (by decide) (by decide) rfl rfl rfl rfl f.i f.l ?_
  replace f := f.mono (t' := 430) (Nat.le_succ _)
  refine a_putq rfl pfX12_42_12 (by first | assumption | (simp (disch := omega) only [upK_self, hK, upK_ne, oldX1, oldX0, oldX2, oldX7, oldX9, oldX5, oldX8_3, oldX8_6, oldX6, oldX3, oldX11]) | (simp (disch := omega) only [upK_ne, upK_self, hK, upK_ne, oldX1, oldX0, oldX2, oldX7, oldX9, oldX5, oldX8_3, oldX8_6, oldX6, oldX3, oldX11])) ?_
  replace f := f.putR (q := 420) (k := 18) (v := 429 + 1) (by decide)
  refine a_l0 rfl rfl rfl ?_
  refine a_s rfl rfl ?_
  refine a_newarr (N := 7) (tg := 2) rfl rfl rfl ar_long (by decide) (by decide) rfl rfl rfl rfl f.i f.l ?_
  replace f := f.mono (t' := 431) (Nat.le_succ _)
  refine a_putq rfl pfX12_45_12 (by first | assumption | (simp (disch := omega) only [upK_self, hK, upK_ne, oldX1, oldX0, oldX2, oldX7, oldX9, oldX5, oldX8_3, oldX8_6, oldX6, oldX3, oldX11]) | (simp (disch := omega) only [upK_ne, upK_self, hK, upK_ne, oldX1, oldX0, oldX2, oldX7, oldX9, oldX5, oldX8_3, oldX8_6, oldX6, oldX3, oldX11])) ?_
  replace f := f.putR (q := 420) (k := 19) (v := 430 + 1) (by decide)
  refine a_l0 rfl rfl rfl ?_
  refine a_getq (q := 421) rfl gfX12_13_12 (by first | assumption | (simp (disch := omega) only [upK_self, hK, upK_ne, oldX1, oldX0, oldX2, oldX7, oldX9, oldX5, oldX8_3, oldX8_6, oldX6, oldX3, oldX11]) | (simp (disch := omega) only [upK_ne, upK_self, hK, upK_ne, oldX1, oldX0, oldX2, oldX7, oldX9, oldX5, oldX8_3, oldX8_6, oldX6, oldX3, oldX11])) (by simp (disch := decide) only [up2_at, up2_ne, up2_row, rowX1, rowX0, rowX2, rowX7, rowX9, rowX5, rowX8_3, rowX8_6, rowX6, rowX3]) ?_
  refine a_s rfl rfl ?_
  refine a_s rfl rfl ?_
  refine a_iast (n := 2033) rfl (by first | assumption | (simp (disch := omega) only [upK_self, hK, upK_ne, oldX1, oldX0, oldX2, oldX7, oldX9, oldX5, oldX8_3, oldX8_6, oldX6, oldX3, oldX11]) | (simp (disch := omega) only [upK_ne, upK_self, hK, upK_ne, oldX1, oldX0, oldX2, oldX7, oldX9, oldX5, oldX8_3, oldX8_6, oldX6, oldX3, oldX11])) ⟨by decide, by decide⟩ ?_
  replace f := f.putI (q := 421) (k := 4) (v := 1) (by decide)
  refine a_l0 rfl rfl rfl ?_
  refine a_getq (q := 421) rfl gfX12_13_12 (by first | assumption | (simp (disch := omega) only [upK_self, hK, upK_ne, oldX1, oldX0, oldX2, oldX7, oldX9, oldX5, oldX8_3, oldX8_6, oldX6, oldX3, oldX11]) | (simp (disch := omega) only [upK_ne, upK_self, hK, upK_ne, oldX1, oldX0, oldX2, oldX7, oldX9, oldX5, oldX8_3, oldX8_6, oldX6, oldX3, oldX11])) (by simp (disch := decide) only [up2_at, up2_ne, up2_row, rowX1, rowX0, rowX2, rowX7, rowX9, rowX5, rowX8_3, rowX8_6, rowX6, rowX3]) ?_
  refine a_s rfl rfl ?_
  refine a_s rfl rfl ?_
  refine a_iast (n := 2033) rfl (by first | assumption | (simp (disch := omega) only [upK_self, hK, upK_ne, oldX1, oldX0, oldX2, oldX7, oldX9, oldX5, oldX8_3, oldX8_6, oldX6, oldX3, oldX11]) | (simp (disch := omega) only [upK_ne, upK_self, hK, upK_ne, oldX1, oldX0, oldX2, oldX7, oldX9, oldX5, oldX8_3, oldX8_6, oldX6, oldX3, oldX11])) ⟨by decide, by decide⟩ ?_
  replace f := f.putI (q := 421) (k := 7) (v := 2) (by decide)
  refine a_l0 rfl rfl rfl ?_
  refine a_getq (q := 421) rfl gfX12_13_12 (by first | assumption | (simp (disch := omega) only [upK_self, hK, upK_ne, oldX1, oldX0, oldX2, oldX7, oldX9, oldX5, oldX8_3, oldX8_6, oldX6, oldX3, oldX11]) | (simp (disch := omega) only [upK_ne, upK_self, hK, upK_ne, oldX1, oldX0, oldX2, oldX7, oldX9, oldX5, oldX8_3, oldX8_6, oldX6, oldX3, oldX11])) (by simp (disch := decide) only [up2_at, up2_ne, up2_row, rowX1, rowX0, rowX2, rowX7, rowX9, rowX5, rowX8_3, rowX8_6, rowX6, rowX3]) ?_
  refine a_s rfl rfl ?_
  refine a_s rfl rfl ?_
  refine a_iast (n := 2033) rfl (by first | assumption | (simp (disch := omega) only [upK_self, hK, upK_ne, oldX1, oldX0, oldX2, oldX7, oldX9, oldX5, oldX8_3, oldX8_6, oldX6, oldX3, oldX11]) | (simp (disch := omega) only [upK_ne, upK_self, hK, upK_ne, oldX1, oldX0, oldX2, oldX7, oldX9, oldX5, oldX8_3, oldX8_6, oldX6, oldX3, oldX11])) ⟨by decide, by decide⟩ ?_
  replace f := f.putI (q := 421) (k := 8) (v := 3) (by decide)
  refine a_l0 rfl rfl rfl ?_
  refine a_getq (q := 421) rfl gfX12_13_12 (by first | assumption | (simp (disch := omega) only [upK_self, hK, upK_ne, oldX1, oldX0, oldX2, oldX7, oldX9, oldX5, oldX8_3, oldX8_6, oldX6, oldX3, oldX11]) | (simp (disch := omega) only [upK_ne, upK_self, hK, upK_ne, oldX1, oldX0, oldX2, oldX7, oldX9, oldX5, oldX8_3, oldX8_6, oldX6, oldX3, oldX11])) (by simp (disch := decide) only [up2_at, up2_ne, up2_row, rowX1, rowX0, rowX2, rowX7, rowX9, rowX5, rowX8_3, rowX8_6, rowX6, rowX3]) ?_
  refine a_s rfl rfl ?_
  refine a_s rfl rfl ?_
  refine a_iast (n := 2033) rfl (by first | assumption | (simp (disch := omega) only [upK_self, hK, upK_ne, oldX1, oldX0, oldX2, oldX7, oldX9, oldX5, oldX8_3, oldX8_6, oldX6, oldX3, oldX11]) | (simp (disch := omega) only [upK_ne, upK_self, hK, upK_ne, oldX1, oldX0, oldX2, oldX7, oldX9, oldX5, oldX8_3, oldX8_6, oldX6, oldX3, oldX11])) ⟨by decide, by decide⟩ ?_
  replace f := f.putI (q := 421) (k := 10) (v := 1) (by decide)
  exact a_vret rfl rfl ⟨rfl, rfl⟩
end
section
/-! ===== the heap when all is made ===== -/
def Kz : Nat → Nat × Nat := upK (kX12 (upK (kX11 (upK (fun _ => (0, 0)) 200 (1, 11))) 420 (1, 12))) 431 (4, 1)
def I0 : Nat → Nat → Int32 := iX12 (iX11 (fun _ _ => 0))
def Rz : Nat → Nat → Nat := rX12 (rX11 (fun _ _ => 0))
def Ka : Nat → List (Nat × Nat) → (Nat → Nat × Nat) → Nat → Nat × Nat
  | _, [], f => f
  | n, v :: r, f => Ka (n + 1) r (upK f n v)
theorem Ka_lt {p : Nat} (l : List (Nat × Nat)) : ∀ (n : Nat) (f : Nat → Nat × Nat), p < n → Ka n l f p = f p := by
  induction l with
  | nil => intro n f _; rfl
  | cons v r ih =>
    intro n f h
    show Ka (n + 1) r (upK f n v) p = f p
    rw [ih (n + 1) _ (by omega), upK_ne (by omega)]
theorem Ka_ge {p : Nat} (l : List (Nat × Nat)) : ∀ (n : Nat) (f : Nat → Nat × Nat), n + l.length ≤ p → Ka n l f p = f p := by
  induction l with
  | nil => intro n f _; rfl
  | cons v r ih =>
    intro n f h
    have h1 : n + (r.length + 1) ≤ p := h
    show Ka (n + 1) r (upK f n v) p = f p
    rw [ih (n + 1) _ (by omega), upK_ne (by omega)]
theorem Ka_at (l : List (Nat × Nat)) : ∀ (n k : Nat) (f : Nat → Nat × Nat), k < l.length → Ka n l f (n + k) = nthK l k := by
  induction l with
  | nil => intro n k f h; exact absurd h (Nat.not_lt_zero k)
  | cons v r ih =>
    intro n k f h
    show Ka (n + 1) r (upK f n v) (n + k) = nthK (v :: r) k
    cases k with
    | zero => exact (Ka_lt r (n + 1) (upK f n v) (Nat.lt_succ_self n)).trans upK_self
    | succ k =>
      have e : n + (k + 1) = n + 1 + k := by omega
      rw [e]
      exact ih (n + 1) k _ (Nat.lt_of_succ_lt_succ h)
theorem nthK_out {l : List (Nat × Nat)} {n : Nat} (h : l.length ≤ n) : nthK l n = (0, 0) := by
  induction l generalizing n with
  | nil => rfl
  | cons a l ih =>
    cases n with
    | zero => simp at h
    | succ n => exact ih (by simpa using h)
theorem nthN_out {l : List Nat} {n : Nat} (h : l.length ≤ n) : nthN l n = 0 := by
  induction l generalizing n with
  | nil => rfl
  | cons a l ih =>
    cases n with
    | zero => simp at h
    | succ n => exact ih (by simpa using h)
set_option maxRecDepth 100000
theorem Kz_a : Kz = Ka 200 KL (fun _ => (0, 0)) := rfl
theorem Kz_eq : Kz = K0 := by
  rw [Kz_a]
  have hl : KL.length = 232 := by decide +kernel
  funext p
  rcases Nat.lt_or_ge p 200 with h | h
  · have e1 : K0 p = (0, 0) := by
      have : Nat.ble 200 p = false := by
        cases h2 : Nat.ble 200 p with
        | false => rfl
        | true => exact absurd (Nat.le_of_ble_eq_true h2) (by omega)
      unfold K0
      rw [this]
    rw [e1, Ka_lt KL 200 _ h]
  · have e1 : K0 p = nthK KL (p - 200) := by
      have : Nat.ble 200 p = true := Nat.ble_eq_true_of_le h
      unfold K0
      rw [this]
    rw [e1]
    rcases Nat.lt_or_ge p 432 with h2 | h2
    · have := Ka_at KL 200 (p - 200) (fun _ => (0, 0)) (by omega)
      rw [show 200 + (p - 200) = p by omega] at this
      exact this
    · rw [Ka_ge KL 200 _ (by omega), nthK_out (by omega)]
def rzl : List (Nat × Nat × Nat) := [(420, 19, 431), (420, 18, 430), (420, 17, 429), (420, 15, 428), (420, 8, 427), (420, 5, 426), (420, 4, 425), (420, 3, 424), (420, 2, 423), (420, 1, 422), (287, 11, 410), (409, 17, 419), (418, 2, 420), (409, 9, 418), (409, 8, 417), (409, 7, 416), (409, 6, 415), (409, 5, 414), (409, 4, 413), (409, 2, 412), (409, 1, 411), (287, 10, 399), (398, 17, 408), (407, 2, 409), (398, 9, 407), (398, 8, 406), (398, 7, 405), (398, 6, 404), (398, 5, 403), (398, 4, 402), (398, 2, 401), (398, 1, 400), (287, 9, 388), (387, 17, 397), (396, 2, 398), (387, 9, 396), (387, 8, 395), (387, 7, 394), (387, 6, 393), (387, 5, 392), (387, 4, 391), (387, 2, 390), (387, 1, 389), (287, 8, 377), (376, 17, 386), (385, 2, 387), (376, 9, 385), (376, 8, 384), (376, 7, 383), (376, 6, 382), (376, 5, 381), (376, 4, 380), (376, 2, 379), (376, 1, 378), (287, 7, 366), (365, 17, 375), (374, 2, 376), (365, 9, 374), (365, 8, 373), (365, 7, 372), (365, 6, 371), (365, 5, 370), (365, 4, 369), (365, 2, 368), (365, 1, 367), (287, 6, 355), (354, 17, 364), (363, 2, 365), (354, 9, 363), (354, 8, 362), (354, 7, 361), (354, 6, 360), (354, 5, 359), (354, 4, 358), (354, 2, 357), (354, 1, 356), (287, 5, 344), (343, 17, 353), (352, 2, 354), (343, 9, 352), (343, 8, 351), (343, 7, 350), (343, 6, 349), (343, 5, 348), (343, 4, 347), (343, 2, 346), (343, 1, 345), (287, 4, 333), (332, 17, 342), (341, 2, 343), (332, 9, 341), (332, 8, 340), (332, 7, 339), (332, 6, 338), (332, 5, 337), (332, 4, 336), (332, 2, 335), (332, 1, 334), (287, 3, 322), (321, 17, 331), (330, 2, 332), (321, 9, 330), (321, 8, 329), (321, 7, 328), (321, 6, 327), (321, 5, 326), (321, 4, 325), (321, 2, 324), (321, 1, 323), (287, 2, 311), (310, 17, 320), (319, 2, 321), (310, 9, 319), (310, 8, 318), (310, 7, 317), (310, 6, 316), (310, 5, 315), (310, 4, 314), (310, 2, 313), (310, 1, 312), (287, 1, 300), (299, 17, 309), (308, 2, 310), (299, 9, 308), (299, 8, 307), (299, 7, 306), (299, 6, 305), (299, 5, 304), (299, 4, 303), (299, 2, 302), (299, 1, 301), (287, 0, 289), (288, 17, 298), (297, 2, 299), (288, 9, 297), (288, 8, 296), (288, 7, 295), (288, 6, 294), (288, 5, 293), (288, 4, 292), (288, 2, 291), (288, 1, 290), (200, 11, 288), (200, 9, 280), (279, 8, 287), (279, 7, 286), (279, 6, 285), (279, 5, 284), (279, 4, 283), (279, 3, 282), (279, 2, 281), (200, 8, 269), (268, 17, 278), (277, 2, 279), (268, 9, 277), (268, 8, 276), (268, 7, 275), (268, 6, 274), (268, 5, 273), (268, 4, 272), (268, 2, 271), (268, 1, 270), (200, 7, 258), (257, 17, 267), (266, 2, 268), (257, 9, 266), (257, 8, 265), (257, 7, 264), (257, 6, 263), (257, 5, 262), (257, 4, 261), (257, 2, 260), (257, 1, 259), (200, 6, 255), (254, 1, 257), (254, 0, 256), (200, 5, 247), (246, 8, 254), (246, 7, 253), (246, 6, 252), (246, 5, 251), (246, 4, 250), (246, 3, 249), (246, 2, 248), (200, 4, 236), (235, 17, 245), (244, 2, 246), (235, 9, 244), (235, 8, 243), (235, 7, 242), (235, 6, 241), (235, 5, 240), (235, 4, 239), (235, 2, 238), (235, 1, 237), (200, 2, 221), (220, 3, 235), (220, 2, 227), (226, 8, 234), (226, 7, 233), (226, 6, 232), (226, 5, 231), (226, 4, 230), (226, 3, 229), (226, 2, 228), (220, 0, 222), (221, 3, 226), (221, 2, 225), (221, 1, 224), (221, 0, 223), (200, 1, 204), (203, 2, 210), (209, 17, 219), (218, 2, 220), (209, 9, 218), (209, 8, 217), (209, 7, 216), (209, 6, 215), (209, 5, 214), (209, 4, 213), (209, 2, 212), (209, 1, 211), (203, 0, 205), (204, 3, 209), (204, 2, 208), (204, 1, 207), (204, 0, 206), (200, 0, 202), (201, 0, 203)]
def Rl (l : List (Nat × Nat × Nat)) : Nat → Nat → Nat := List.foldr (fun e f => up2 f e.1 e.2.1 e.2.2) (fun _ _ => 0) l
theorem Rz_l : Rz = Rl rzl := rfl
theorem Rl_out {p k : Nat} (l : List (Nat × Nat × Nat)) (h : ¬ ∃ e ∈ l, e.1 = p ∧ e.2.1 = k) : Rl l p k = 0 := by
  induction l with
  | nil => rfl
  | cons a l ih =>
    have h1 : ¬ (a.1 = p ∧ a.2.1 = k) := fun z => h ⟨a, List.mem_cons_self, z⟩
    show up2 (Rl l) a.1 a.2.1 a.2.2 p k = 0
    rw [up2_ne (by omega)]
    exact ih fun ⟨e, he, z⟩ => h ⟨e, List.mem_cons_of_mem _ he, z⟩
theorem rcIn_or {p k : Nat} (l : List (Nat × List Nat)) : rcIn p k l = 0 ∨ ∃ e ∈ l, e.1 = p ∧ k < e.2.length := by
  induction l with
  | nil => exact Or.inl rfl
  | cons a l ih =>
    cases hb : Nat.beq a.1 p with
    | false =>
      simp only [rcIn, hb]
      rcases ih with h | ⟨e, he, z⟩
      · exact Or.inl h
      · exact Or.inr ⟨e, List.mem_cons_of_mem _ he, z⟩
    | true =>
      simp only [rcIn, hb]
      rcases Nat.lt_or_ge k a.2.length with h | h
      · exact Or.inr ⟨a, List.mem_cons_self, Nat.eq_of_beq_eq_true hb, h⟩
      · exact Or.inl (nthN_out h)
def Rb (p k : Nat) : List (Nat × Nat × Nat) → Nat
  | [] => 0
  | e :: r => match Nat.beq e.1 p with
    | true => match Nat.beq e.2.1 k with
      | true => e.2.2
      | false => Rb p k r
    | false => Rb p k r
theorem Rb_eq {p k : Nat} (l : List (Nat × Nat × Nat)) : Rl l p k = Rb p k l := by
  induction l with
  | nil => rfl
  | cons a l ih =>
    show up2 (Rl l) a.1 a.2.1 a.2.2 p k = Rb p k (a :: l)
    cases h1 : Nat.beq a.1 p with
    | false =>
      have n1 : p ≠ a.1 := fun z => by rw [z, Nat.beq_refl] at h1; exact Bool.noConfusion h1
      rw [up2_ne (Or.inl n1), ih]
      simp only [Rb, h1]
    | true =>
      have n1 : a.1 = p := Nat.eq_of_beq_eq_true h1
      cases h2 : Nat.beq a.2.1 k with
      | false =>
        have n2 : k ≠ a.2.1 := fun z => by rw [z, Nat.beq_refl] at h2; exact Bool.noConfusion h2
        rw [up2_ne (Or.inr n2), ih]
        simp only [Rb, h1, h2]
      | true =>
        have n2 : a.2.1 = k := Nat.eq_of_beq_eq_true h2
        subst n1
        subst n2
        rw [up2_at]
        simp only [Rb, h1, h2]
def rlA : List (Nat × Nat × Nat) → Bool
  | [] => true
  | e :: r => match Nat.beq (Rb e.1 e.2.1 rzl) (Rc e.1 e.2.1) with
    | true => rlA r
    | false => false
theorem rlA_at {l : List (Nat × Nat × Nat)} (h : rlA l = true) : ∀ e ∈ l, Rb e.1 e.2.1 rzl = Rc e.1 e.2.1 := by
  induction l with
  | nil => intro e he; exact absurd he List.not_mem_nil
  | cons a l ih =>
    cases hb : Nat.beq (Rb a.1 a.2.1 rzl) (Rc a.1 a.2.1) with
    | false => simp only [rlA, hb] at h; exact Bool.noConfusion h
    | true =>
      simp only [rlA, hb] at h
      exact List.forall_mem_cons.mpr ⟨Nat.eq_of_beq_eq_true hb, ih h⟩
def rlK (p : Nat) : Nat → Bool
  | 0 => true
  | n + 1 => match Nat.beq (Rb p n rzl) (Rc p n) with
    | true => rlK p n
    | false => false
theorem rlK_at {p : Nat} : ∀ {n : Nat}, rlK p n = true → ∀ k, k < n → Rb p k rzl = Rc p k := by
  intro n
  induction n with
  | zero => intro _ k hk; exact absurd hk (Nat.not_lt_zero k)
  | succ n ih =>
    intro h k hk
    cases hb : Nat.beq (Rb p n rzl) (Rc p n) with
    | false => simp only [rlK, hb] at h; exact Bool.noConfusion h
    | true =>
      simp only [rlK, hb] at h
      rcases Nat.lt_or_ge k n with h2 | h2
      · exact ih h k h2
      · obtain rfl : k = n := by omega
        exact Nat.eq_of_beq_eq_true hb
def rlB : List (Nat × List Nat) → Bool
  | [] => true
  | e :: r => match rlK e.1 e.2.length with
    | true => rlB r
    | false => false
theorem rlB_at {l : List (Nat × List Nat)} (h : rlB l = true) : ∀ e ∈ l, ∀ k, k < e.2.length → Rb e.1 k rzl = Rc e.1 k := by
  induction l with
  | nil => intro e he; exact absurd he List.not_mem_nil
  | cons a l ih =>
    cases hb : rlK a.1 a.2.length with
    | false => simp only [rlB, hb] at h; exact Bool.noConfusion h
    | true =>
      simp only [rlB, hb] at h
      exact List.forall_mem_cons.mpr ⟨rlK_at hb, ih h⟩
theorem Rl_a : ∀ e ∈ rzl, Rl rzl e.1 e.2.1 = Rc e.1 e.2.1 := fun e he => (Rb_eq rzl).trans (rlA_at (show rlA rzl = true by decide +kernel) e he)
theorem Rl_b : ∀ e ∈ RL0, ∀ k, k < e.2.length → Rl rzl e.1 k = Rc e.1 k := fun e he k hk => (Rb_eq rzl).trans (rlB_at (show rlB RL0 = true by decide +kernel) e he k hk)
theorem Rz_Rc : Rz = Rc := by
  rw [Rz_l]
  funext p k
  by_cases h : ∃ e ∈ rzl, e.1 = p ∧ e.2.1 = k
  · obtain ⟨e, he, rfl, rfl⟩ := h
    exact Rl_a e he
  · rw [Rl_out rzl h]
    rcases rcIn_or (p := p) (k := k) RL0 with h1 | ⟨e, he, rfl, h2⟩
    · exact h1.symm
    · rw [← Rl_b e he k h2, Rl_out rzl h]
theorem Rc_w : Rc 204 9 = 0 ∧ Rc 221 9 = 0 := by decide +kernel
theorem Rz_eq : Rz = Rw 0 0 := by
  rw [Rz_Rc]
  funext p k
  by_cases hk : k = 9
  · subst hk
    by_cases h1 : p = 204
    · subst h1; simp [Rw, Rc_w.1]
    · by_cases h2 : p = 221
      · subst h2; simp [Rw, Rc_w.2]
      · have e1 : Nat.beq p 204 = false := beqF h1
        have e2 : Nat.beq p 221 = false := beqF h2
        simp [Rw, e1, e2]
  · have : Nat.beq k 9 = false := beqF hk
    simp [Rw, this]
end
section
/-! ===== what of the heap counts; copies ===== -/
def mI (K : Nat → Nat × Nat) (p k : Nat) : Bool := match K p with
  | (0, _) => false
  | (1, ci) => match aC[ci]? with
    | some r => Nat.blt k r.1.2.2 && isIntTy (r.2 k)
    | none => false
  | (_ + 2, n) => Nat.blt k n
theorem arrV_congr {c : ClassId} {n : Nat} {f g : Nat → Value} (h : ∀ j, j < n → f j = g j) : arrV c n f = arrV c n g := by
  unfold arrV
  congr 1
  congr 1
  funext j
  exact h j.val j.isLt
theorem blt_of {a b : Nat} (h : a < b) : Nat.blt a b = true := Nat.ble_eq_true_of_le h
theorem Rep.congrI {G : aG} {K : Nat → Nat × Nat} {I I' : Nat → Nat → Int32} {L : Nat → Nat → Int64} {R : Nat → Nat → Nat} {t : Nat} {H : Heap} (hR : Rep G (K, I, L, R, t) H) (h : ∀ p k, mI K p k = true → I' p k = I p k) : Rep G (K, I', L, R, t) H := by
  refine ⟨fun p => ?_, hR.2⟩
  have q := hR.1 p
  have hh := h p
  unfold mI at hh
  unfold cellA at q ⊢
  dsimp only at q ⊢
  rcases hk : K p with ⟨a, b⟩
  rw [hk] at q hh
  rcases a with _ | _ | a
  · trivial
  · obtain ⟨r, h1, cell, h2, h3, h4, h5⟩ := q
    refine ⟨r, h1, cell, h2, h3, h4, fun k hkk => ?_⟩
    rw [h5 k hkk]
    dsimp only at hh
    rw [h1] at hh
    cases hty : isIntTy (r.2 k) with
    | true => rw [fv_int hty, fv_int hty, hh k (by dsimp only; rw [hty, blt_of hkk]; rfl)]
    | false =>
      unfold fv
      cases hr : r.2 k <;> first | rfl | (rw [hr] at hty; cases hty)
  · have e : arrV (G.2.1 (a + 2)) b (fun j => ev G I' L R (a + 2) p j) = arrV (G.2.1 (a + 2)) b (fun j => ev G I L R (a + 2) p j) := arrV_congr fun j hj => by
      unfold ev
      rw [hh j (blt_of hj)]
    show H[ad G p]? = some (arrV _ _ _)
    rw [e]
    exact q
section A41
variable {S : aS} {C : aM} {d : Nat} {Q : Option Value → aH → Prop} {X : String → aH → Prop} {k1 k2 pc np tgt : Nat} {w : Int32} {ls ls' : List (Option Value)} {st st' : List Value} {h : aH} {ins : Instr}
variable {K : Nat → Nat × Nat} {I I' : Nat → Nat → Int32} {L : Nat → Nat → Int64} {R : Nat → Nat → Nat} {t : Nat}
/-- a heap in which all that counts is the same -/
theorem a_congr (hI : ∀ p k, mI K p k = true → I' p k = I p k) (kk : AW S C d Q X k1 k2 pc ls st (K, I', L, R, t)) : AW S C d Q X k1 k2 pc ls st (K, I, L, R, t) := by
  intro p l e s m args below meth c H la locs cells slots mc ms G CC hS hL hR hF g1 g2
  exact kk p l e s m args below meth c H la locs cells slots mc ms G CC hS hL (hR.congrI hI) hF g1 g2
/-- a loop by an invariant of its own -/
theorem a_inv {n : Nat} (P : Nat → List (Option Value) → aH → Prop) (h0 : P n ls h) (hs : ∀ j ls h, P j ls h → (∀ i ls' h', i < j → P i ls' h' → AW S C d Q X k1 k2 pc ls' st h') → AW S C d Q X k1 k2 pc ls st h) : AW S C d Q X k1 k2 pc ls st h := by
  induction n using Nat.strongRecOn generalizing ls h with
  | _ n ih => exact hs n ls h h0 fun i ls' h' hi hp => ih i hi hp
theorem a_getiv {idx ci k p : Nat} {v : Int32} (hC : look C pc = some (.getfield idx, np, tgt, w)) (hf : LFi C.1.cls idx ci k) (hK : K p = (1, ci)) (hv : I p k = v) (kk : AW S C d Q X k1 k2 np ls (.int v :: st) (K, I, L, R, t)) : AW S C d Q X k1 k2 pc ls (.ref p :: st) (K, I, L, R, t) := by
  subst hv
  exact a_geti hC hf hK kk
theorem a_ialdv {p n : Nat} {i v : Int32} (hC : look C pc = some (.iaload, np, tgt, w)) (hK : K p = (2, n)) (hi : inI i n) (hv : I p i.toNatClampNeg = v) (kk : AW S C d Q X k1 k2 np ls (.int v :: st) (K, I, L, R, t)) : AW S C d Q X k1 k2 pc ls (.int i :: .ref p :: st) (K, I, L, R, t) := by
  subst hv
  exact a_iald hC hK hi kk
theorem a_iastv {p n k : Nat} {i x : Int32} (hC : look C pc = some (.iastore, np, tgt, w)) (hK : K p = (2, n)) (hi : inI i n) (hk : i.toNatClampNeg = k) (kk : AW S C d Q X k1 k2 np ls st (K, up2 I p k x, L, R, t)) : AW S C d Q X k1 k2 pc ls (.int x :: .int i :: .ref p :: st) (K, I, L, R, t) := by
  subst hk
  exact a_iast hC hK hi kk
theorem a_bastv {p n k : Nat} {i x : Int32} (hC : look C pc = some (.bastore, np, tgt, w)) (hK : K p = (3, n)) (hi : inI i n) (hx : x.toInt8.toInt32 = x) (hk : i.toNatClampNeg = k) (kk : AW S C d Q X k1 k2 np ls st (K, up2 I p k x, L, R, t)) : AW S C d Q X k1 k2 pc ls (.int x :: .int i :: .ref p :: st) (K, I, L, R, t) := by
  subst hk
  exact a_bast hC hK hi hx kk
theorem a_baldv {p n : Nat} {i v : Int32} (hC : look C pc = some (.baload, np, tgt, w)) (hK : K p = (3, n)) (hi : inI i n) (hv : I p i.toNatClampNeg = v) (kk : AW S C d Q X k1 k2 np ls (.int v :: st) (K, I, L, R, t)) : AW S C d Q X k1 k2 pc ls (.int i :: .ref p :: st) (K, I, L, R, t) := by
  subst hv
  exact a_bald hC hK hi kk
theorem a_laldv {p n : Nat} {i : Int32} {v : Int64} (hC : look C pc = some (.laload, np, tgt, w)) (hK : K p = (4, n)) (hi : inI i n) (hv : L p i.toNatClampNeg = v) (kk : AW S C d Q X k1 k2 np ls (.long v :: st) (K, I, L, R, t)) : AW S C d Q X k1 k2 pc ls (.int i :: .ref p :: st) (K, I, L, R, t) := by
  subst hv
  exact a_lald hC hK hi kk
theorem a_lastv {p n k : Nat} {i : Int32} {x : Int64} (hC : look C pc = some (.lastore, np, tgt, w)) (hK : K p = (4, n)) (hi : inI i n) (hk : i.toNatClampNeg = k) (kk : AW S C d Q X k1 k2 np ls st (K, I, up2 L p k x, R, t)) : AW S C d Q X k1 k2 pc ls (.long x :: .int i :: .ref p :: st) (K, I, L, R, t) := by
  subst hk
  exact a_last hC hK hi kk
theorem a_top {x y : Int32} (e : x = y) (kk : AW S C d Q X k1 k2 pc ls (.int y :: st) h) : AW S C d Q X k1 k2 pc ls (.int x :: st) h := by
  rw [e]
  exact kk
theorem a_pop1 {st0 : List Value} (e : st0 = st) (kk : AW S C d Q X k1 k2 pc ls st h) : AW S C d Q X k1 k2 pc ls st0 h := by
  rw [e]
  exact kk
end A41
theorem i2b_id (x : Int32) : x.toInt8.toInt32.toInt8.toInt32 = x.toInt8.toInt32 := by simp
theorem upr_row {α : Type} {f : Nat → α} {p q : Nat} {r : α} (h : q ≠ p) : upr f p r q = f q := by simp [upr, h]
theorem upr_at {α : Type} {f : Nat → α} {p : Nat} {r : α} : upr f p r p = r := by simp [upr]
theorem stp_apart : ∀ a ∈ stps, ∀ b ∈ stps, a ≠ b → a + 11 ≤ b ∨ b + 11 ≤ a := by decide +kernel
theorem lwp_apart : ∀ a ∈ lwps, ∀ b ∈ lwps, a ≠ b → a + 9 ≤ b ∨ b + 9 ≤ a := by decide +kernel
def cpS (I : Nat → Nat → Int32) (a b m : Nat) : Nat → Nat → Int32 := fun q => if a ≤ q ∧ q < a + m then I (b + (q - a)) else I q
theorem cpS_out {I : Nat → Nat → Int32} {a b m q : Nat} (h : ¬ (a ≤ q ∧ q < a + m)) : cpS I a b m q = I q := if_neg h
theorem cpS_in {I : Nat → Nat → Int32} {a b m i : Nat} (h : i < m) : cpS I a b m (a + i) = I (b + i) := by
  unfold cpS
  rw [if_pos ⟨by omega, by omega⟩]
  congr 1
  omega
theorem cpS_in0 {I : Nat → Nat → Int32} {a b m : Nat} (h : 0 < m) : cpS I a b m a = I b := cpS_in (i := 0) h
theorem cpS_all {I : Nat → Nat → Int32} {a b : Nat} (h : a + 11 ≤ b ∨ b + 11 ≤ a) : cpS (cpS I a b 9) (a + 9) (b + 9) 2 = cpS I a b 11 := by
  funext q
  by_cases h1 : a ≤ q ∧ q < a + 11
  · by_cases h2 : q < a + 9
    · rw [cpS_out (by omega)]
      unfold cpS
      rw [if_pos (by omega), if_pos (by omega)]
    · have e : cpS (cpS I a b 9) (a + 9) (b + 9) 2 q = cpS I a b 9 (b + 9 + (q - (a + 9))) := if_pos (by omega)
      rw [e, cpS_out (by omega)]
      unfold cpS
      rw [if_pos (by omega)]
      congr 1
      omega
  · rw [cpS_out (by omega), cpS_out (by omega), cpS_out (by omega)]
def cpL (I : Nat → Nat → Int32) (a b : Nat) : Nat → Nat → Int32 := up2 (cpS I (a + 1) (b + 1) 5) a 0 (I b 0)
/-- the first j of a row -/
def cpP (I : Nat → Nat → Int32) (p q j : Nat) : Nat → Nat → Int32 := upr I p (fun k => if k < j then I q k else I p k)
theorem cpP_0 {I : Nat → Nat → Int32} {p q : Nat} : cpP I p q 0 = I := by
  funext x
  unfold cpP upr
  split
  · next h => subst h; funext k; simp
  · rfl
theorem cpP_src {I : Nat → Nat → Int32} {p q j : Nat} (h : q ≠ p) : cpP I p q j q = I q := upr_row h
theorem cpP_out {I : Nat → Nat → Int32} {p q j x : Nat} (h : x ≠ p) : cpP I p q j x = I x := upr_row h
theorem cpP_succ {I : Nat → Nat → Int32} {p q j : Nat} : up2 (cpP I p q j) p j (I q j) = cpP I p q (j + 1) := by
  funext x k
  by_cases hx : x = p
  · subst hx
    by_cases hk : k = j
    · subst hk
      rw [up2_at]
      simp [cpP, upr]
    · rw [up2_ne (Or.inr hk)]
      simp only [cpP, upr, if_pos]
      by_cases h : k < j
      · rw [if_pos h, if_pos (by omega)]
      · rw [if_neg h, if_neg (by omega)]
  · rw [up2_row hx, cpP_out hx, cpP_out hx]
theorem a_iv10 {S : aS} {C : aM} {d : Nat} {Q : Option Value → aH → Prop} {X : String → aH → Prop} {k1 k2 pc np tgt : Nat} {w : Int32} {r : List (Option Value)} {st : List Value} {h : aH} {a0 a1 a2 a3 a4 a5 a6 a7 a8 a9 : Option Value} {n : Int} {x y : Int32} (hC : look C pc = some (.iinc 10 n, np, tgt, w)) (hl : notLong a9 = true) (hn : Nat.ble 11 C.2.2.1 = true) (e : x + w = y) (k : AW S C d Q X k1 k2 np (a0 :: a1 :: a2 :: a3 :: a4 :: a5 :: a6 :: a7 :: a8 :: a9 :: some (.int y) :: r) st h) : AW S C d Q X k1 k2 pc (a0 :: a1 :: a2 :: a3 :: a4 :: a5 :: a6 :: a7 :: a8 :: a9 :: some (.int x) :: r) st h := a_i10 hC hl hn (by rw [e]; exact k)
theorem a_iv9 {S : aS} {C : aM} {d : Nat} {Q : Option Value → aH → Prop} {X : String → aH → Prop} {k1 k2 pc np tgt : Nat} {w : Int32} {r : List (Option Value)} {st : List Value} {h : aH} {a0 a1 a2 a3 a4 a5 a6 a7 a8 : Option Value} {n : Int} {x y : Int32} (hC : look C pc = some (.iinc 9 n, np, tgt, w)) (hl : notLong a8 = true) (hn : Nat.ble 10 C.2.2.1 = true) (e : x + w = y) (k : AW S C d Q X k1 k2 np (a0 :: a1 :: a2 :: a3 :: a4 :: a5 :: a6 :: a7 :: a8 :: some (.int y) :: r) st h) : AW S C d Q X k1 k2 pc (a0 :: a1 :: a2 :: a3 :: a4 :: a5 :: a6 :: a7 :: a8 :: some (.int x) :: r) st h := a_i9 hC hl hn (by rw [e]; exact k)
theorem a_iv8 {S : aS} {C : aM} {d : Nat} {Q : Option Value → aH → Prop} {X : String → aH → Prop} {k1 k2 pc np tgt : Nat} {w : Int32} {r : List (Option Value)} {st : List Value} {h : aH} {a0 a1 a2 a3 a4 a5 a6 a7 : Option Value} {n : Int} {x y : Int32} (hC : look C pc = some (.iinc 8 n, np, tgt, w)) (hl : notLong a7 = true) (hn : Nat.ble 9 C.2.2.1 = true) (e : x + w = y) (k : AW S C d Q X k1 k2 np (a0 :: a1 :: a2 :: a3 :: a4 :: a5 :: a6 :: a7 :: some (.int y) :: r) st h) : AW S C d Q X k1 k2 pc (a0 :: a1 :: a2 :: a3 :: a4 :: a5 :: a6 :: a7 :: some (.int x) :: r) st h := a_i8 hC hl hn (by rw [e]; exact k)
theorem a_iv7 {S : aS} {C : aM} {d : Nat} {Q : Option Value → aH → Prop} {X : String → aH → Prop} {k1 k2 pc np tgt : Nat} {w : Int32} {r : List (Option Value)} {st : List Value} {h : aH} {a0 a1 a2 a3 a4 a5 a6 : Option Value} {n : Int} {x y : Int32} (hC : look C pc = some (.iinc 7 n, np, tgt, w)) (hl : notLong a6 = true) (hn : Nat.ble 8 C.2.2.1 = true) (e : x + w = y) (k : AW S C d Q X k1 k2 np (a0 :: a1 :: a2 :: a3 :: a4 :: a5 :: a6 :: some (.int y) :: r) st h) : AW S C d Q X k1 k2 pc (a0 :: a1 :: a2 :: a3 :: a4 :: a5 :: a6 :: some (.int x) :: r) st h := a_i7 hC hl hn (by rw [e]; exact k)
theorem a_iv6 {S : aS} {C : aM} {d : Nat} {Q : Option Value → aH → Prop} {X : String → aH → Prop} {k1 k2 pc np tgt : Nat} {w : Int32} {r : List (Option Value)} {st : List Value} {h : aH} {a0 a1 a2 a3 a4 a5 : Option Value} {n : Int} {x y : Int32} (hC : look C pc = some (.iinc 6 n, np, tgt, w)) (hl : notLong a5 = true) (hn : Nat.ble 7 C.2.2.1 = true) (e : x + w = y) (k : AW S C d Q X k1 k2 np (a0 :: a1 :: a2 :: a3 :: a4 :: a5 :: some (.int y) :: r) st h) : AW S C d Q X k1 k2 pc (a0 :: a1 :: a2 :: a3 :: a4 :: a5 :: some (.int x) :: r) st h := a_i6 hC hl hn (by rw [e]; exact k)
theorem a_iv5 {S : aS} {C : aM} {d : Nat} {Q : Option Value → aH → Prop} {X : String → aH → Prop} {k1 k2 pc np tgt : Nat} {w : Int32} {r : List (Option Value)} {st : List Value} {h : aH} {a0 a1 a2 a3 a4 : Option Value} {n : Int} {x y : Int32} (hC : look C pc = some (.iinc 5 n, np, tgt, w)) (hl : notLong a4 = true) (hn : Nat.ble 6 C.2.2.1 = true) (e : x + w = y) (k : AW S C d Q X k1 k2 np (a0 :: a1 :: a2 :: a3 :: a4 :: some (.int y) :: r) st h) : AW S C d Q X k1 k2 pc (a0 :: a1 :: a2 :: a3 :: a4 :: some (.int x) :: r) st h := a_i5 hC hl hn (by rw [e]; exact k)
theorem a_iv4 {S : aS} {C : aM} {d : Nat} {Q : Option Value → aH → Prop} {X : String → aH → Prop} {k1 k2 pc np tgt : Nat} {w : Int32} {r : List (Option Value)} {st : List Value} {h : aH} {a0 a1 a2 a3 : Option Value} {n : Int} {x y : Int32} (hC : look C pc = some (.iinc 4 n, np, tgt, w)) (hl : notLong a3 = true) (hn : Nat.ble 5 C.2.2.1 = true) (e : x + w = y) (k : AW S C d Q X k1 k2 np (a0 :: a1 :: a2 :: a3 :: some (.int y) :: r) st h) : AW S C d Q X k1 k2 pc (a0 :: a1 :: a2 :: a3 :: some (.int x) :: r) st h := a_i4 hC hl hn (by rw [e]; exact k)
theorem a_iv3 {S : aS} {C : aM} {d : Nat} {Q : Option Value → aH → Prop} {X : String → aH → Prop} {k1 k2 pc np tgt : Nat} {w : Int32} {r : List (Option Value)} {st : List Value} {h : aH} {a0 a1 a2 : Option Value} {n : Int} {x y : Int32} (hC : look C pc = some (.iinc 3 n, np, tgt, w)) (hl : notLong a2 = true) (hn : Nat.ble 4 C.2.2.1 = true) (e : x + w = y) (k : AW S C d Q X k1 k2 np (a0 :: a1 :: a2 :: some (.int y) :: r) st h) : AW S C d Q X k1 k2 pc (a0 :: a1 :: a2 :: some (.int x) :: r) st h := a_i3 hC hl hn (by rw [e]; exact k)
theorem a_iv2 {S : aS} {C : aM} {d : Nat} {Q : Option Value → aH → Prop} {X : String → aH → Prop} {k1 k2 pc np tgt : Nat} {w : Int32} {r : List (Option Value)} {st : List Value} {h : aH} {a0 a1 : Option Value} {n : Int} {x y : Int32} (hC : look C pc = some (.iinc 2 n, np, tgt, w)) (hl : notLong a1 = true) (hn : Nat.ble 3 C.2.2.1 = true) (e : x + w = y) (k : AW S C d Q X k1 k2 np (a0 :: a1 :: some (.int y) :: r) st h) : AW S C d Q X k1 k2 pc (a0 :: a1 :: some (.int x) :: r) st h := a_i2 hC hl hn (by rw [e]; exact k)
theorem a_iv1 {S : aS} {C : aM} {d : Nat} {Q : Option Value → aH → Prop} {X : String → aH → Prop} {k1 k2 pc np tgt : Nat} {w : Int32} {r : List (Option Value)} {st : List Value} {h : aH} {a0 : Option Value} {n : Int} {x y : Int32} (hC : look C pc = some (.iinc 1 n, np, tgt, w)) (hl : notLong a0 = true) (hn : Nat.ble 2 C.2.2.1 = true) (e : x + w = y) (k : AW S C d Q X k1 k2 np (a0 :: some (.int y) :: r) st h) : AW S C d Q X k1 k2 pc (a0 :: some (.int x) :: r) st h := a_i1 hC hl hn (by rw [e]; exact k)
theorem a_iv0 {S : aS} {C : aM} {d : Nat} {Q : Option Value → aH → Prop} {X : String → aH → Prop} {k1 k2 pc np tgt : Nat} {w : Int32} {r : List (Option Value)} {st : List Value} {h : aH} {n : Int} {x y : Int32} (hC : look C pc = some (.iinc 0 n, np, tgt, w)) (hn : Nat.ble 1 C.2.2.1 = true) (e : x + w = y) (k : AW S C d Q X k1 k2 np (some (.int y) :: r) st h) : AW S C d Q X k1 k2 pc (some (.int x) :: r) st h := a_i0 hC hn (by rw [e]; exact k)
set_option maxRecDepth 100000
theorem sp_X11_copyRow {S : aS} {I : Nat → Nat → Int32} {L : Nat → Nat → Int64} {w1 w2 t : Nat} {p q n : Nat} (h1 : K0 p = (2, n)) (h2 : K0 q = (2, n)) {f : Nat → Int32} (hf : I p = f) : SpE S m_X11_copyRow 12 [.ref p, .ref q] (hp I L w1 w2 t) none (hp (upr I q f) L w1 w2 t) := by
  refine SpE_of ok_X11_copyRow rfl rfl ?_
  show AW S m_X11_copyRow 12 _ _ 0 0 0 [some (.ref p), some (.ref q)] [] (hp I L w1 w2 t)
  refine a_l0 rfl rfl rfl ?_
  refine a_s rfl rfl ?_
  refine a_l1 rfl rfl rfl ?_
  refine a_s rfl rfl ?_
  refine a_l0 rfl rfl rfl ?_
  refine a_len rfl h1 rfl rfl ?_
  refine a_l1 rfl rfl rfl ?_
  refine a_len rfl h2 rfl rfl ?_
  refine a_min rfl lX11_350 mj_min rfl rfl ?_
  rw [ite_self]
  refine a_copy rfl lX11_398 ac_1 h1 h2 (by decide) (by decide) (nI_pos (K0_lt h1)) (by rw [nI_clamp (K0_lt h1)]; simp) (by rw [nI_clamp (K0_lt h1)]; simp) rfl rfl ?_
  refine a_congr (I' := upr I q f) (fun x k hm => ?_) ?_
  · by_cases hx : x = q
    · subst hx
      rw [upr_at, upr_at]
      have hk : k < n := by
        unfold mI at hm
        rw [h2] at hm
        exact Nat.le_of_ble_eq_true hm
      unfold va_cpy
      rw [nI_clamp (K0_lt h1), if_pos ⟨by simp, by simpa using hk⟩, hf]
      simp
    · rw [upr_row hx, upr_row hx]
  refine a_vret rfl rfl ⟨rfl, rfl⟩
theorem sp_X5_copyFrom {S : aS} {I : Nat → Nat → Int32} {L : Nat → Nat → Int64} {w1 w2 t : Nat} {a b : Nat} (ha : stp a) (hb : stp b) (hne : a ≠ b) : SpE S m_X5_copyFrom 13 [.ref a, .ref b] (hp I L w1 w2 t) none (hp (cpS I a b 9) L w1 w2 t) := by
  refine SpE_of ok_X5_copyFrom rfl rfl ?_
  show AW S m_X5_copyFrom 13 _ _ 0 0 0 [some (.ref a), some (.ref b)] [] (hp I L w1 w2 t)
  have hd := stp_apart a ha b hb hne
  refine a_l0 rfl rfl rfl ?_
  refine a_l1 rfl rfl rfl ?_
  refine a_getiv (v := I b 0) rfl gfX5_56_5 (kS0 hb) (by simp (disch := omega) only [up2_row, upr_row]) ?_
  refine a_puti rfl pfX5_56_5 (kS0 ha) ?_
  refine a_l1 rfl rfl rfl ?_
  refine a_getq rfl gfX5_9_5 (kS0 hb) (rS1 hb) ?_
  refine a_l0 rfl rfl rfl ?_
  refine a_getq rfl gfX5_9_5 (kS0 ha) (rS1 ha) ?_
  refine a_eSN0 rfl lX5_59 mo_X11_copyRow (sp_X11_copyRow (f := I (b + 1)) (kS1 hb) (kS1 ha) (by simp (disch := omega) only [up2_row, upr_row])) rfl rfl rfl rfl ?_
  refine a_l1 rfl rfl rfl ?_
  refine a_getq rfl gfX5_15_5 (kS0 hb) (rS2 hb) ?_
  refine a_l0 rfl rfl rfl ?_
  refine a_getq rfl gfX5_15_5 (kS0 ha) (rS2 ha) ?_
  refine a_eSN0 rfl lX5_59 mo_X11_copyRow (sp_X11_copyRow (f := I (b + 2)) (kS2 hb) (kS2 ha) (by simp (disch := omega) only [up2_row, upr_row])) rfl rfl rfl rfl ?_
  refine a_l0 rfl rfl rfl ?_
  refine a_l1 rfl rfl rfl ?_
  refine a_getiv (v := I b 3) rfl gfX5_63_5 (kS0 hb) (by simp (disch := omega) only [up2_row, upr_row]) ?_
  refine a_puti rfl pfX5_63_5 (kS0 ha) ?_
  refine a_l1 rfl rfl rfl ?_
  refine a_getq rfl gfX5_18_5 (kS0 hb) (rS4 hb) ?_
  refine a_l0 rfl rfl rfl ?_
  refine a_getq rfl gfX5_18_5 (kS0 ha) (rS4 ha) ?_
  refine a_eSN0 rfl lX5_59 mo_X11_copyRow (sp_X11_copyRow (f := I (b + 3)) (kS3 hb) (kS3 ha) (by simp (disch := omega) only [up2_row, upr_row])) rfl rfl rfl rfl ?_
  refine a_l1 rfl rfl rfl ?_
  refine a_getq rfl gfX5_21_5 (kS0 hb) (rS5 hb) ?_
  refine a_l0 rfl rfl rfl ?_
  refine a_getq rfl gfX5_21_5 (kS0 ha) (rS5 ha) ?_
  refine a_eSN0 rfl lX5_59 mo_X11_copyRow (sp_X11_copyRow (f := I (b + 4)) (kS4 hb) (kS4 ha) (by simp (disch := omega) only [up2_row, upr_row])) rfl rfl rfl rfl ?_
  refine a_l1 rfl rfl rfl ?_
  refine a_getq rfl gfX5_24_5 (kS0 hb) (rS6 hb) ?_
  refine a_l0 rfl rfl rfl ?_
  refine a_getq rfl gfX5_24_5 (kS0 ha) (rS6 ha) ?_
  refine a_eSN0 rfl lX5_59 mo_X11_copyRow (sp_X11_copyRow (f := I (b + 5)) (kS5 hb) (kS5 ha) (by simp (disch := omega) only [up2_row, upr_row])) rfl rfl rfl rfl ?_
  refine a_l1 rfl rfl rfl ?_
  refine a_getq rfl gfX5_27_5 (kS0 hb) (rS7 hb) ?_
  refine a_l0 rfl rfl rfl ?_
  refine a_getq rfl gfX5_27_5 (kS0 ha) (rS7 ha) ?_
  refine a_eSN0 rfl lX5_59 mo_X11_copyRow (sp_X11_copyRow (f := I (b + 6)) (kS6 hb) (kS6 ha) (by simp (disch := omega) only [up2_row, upr_row])) rfl rfl rfl rfl ?_
  refine a_l1 rfl rfl rfl ?_
  refine a_getq rfl gfX5_30_5 (kS0 hb) (rS8 hb) ?_
  refine a_l0 rfl rfl rfl ?_
  refine a_getq rfl gfX5_30_5 (kS0 ha) (rS8 ha) ?_
  refine a_eSN0 rfl lX5_59 mo_X11_copyRow (sp_X11_copyRow (f := I (b + 7)) (kS7 hb) (kS7 ha) (by simp (disch := omega) only [up2_row, upr_row])) rfl rfl rfl rfl ?_
  refine a_l1 rfl rfl rfl ?_
  refine a_getq rfl gfX5_33_5 (kS0 hb) (rS9 hb) ?_
  refine a_l0 rfl rfl rfl ?_
  refine a_getq rfl gfX5_33_5 (kS0 ha) (rS9 ha) ?_
  refine a_eSN0 rfl lX5_59 mo_X11_copyRow (sp_X11_copyRow (f := I (b + 8)) (kS8 hb) (kS8 ha) (by simp (disch := omega) only [up2_row, upr_row])) rfl rfl rfl rfl ?_
  refine a_l0 rfl rfl rfl ?_
  refine a_l1 rfl rfl rfl ?_
  refine a_getiv (v := I b 10) rfl gfX5_36_5 (kS0 hb) (by simp (disch := omega) only [up2_row, upr_row]) ?_
  refine a_puti rfl pfX5_36_5 (kS0 ha) ?_
  refine a_l0 rfl rfl rfl ?_
  refine a_l1 rfl rfl rfl ?_
  refine a_getiv (v := I b 11) rfl gfX5_66_5 (kS0 hb) (by simp (disch := omega) only [up2_row, upr_row]) ?_
  refine a_puti rfl pfX5_66_5 (kS0 ha) ?_
  refine a_l0 rfl rfl rfl ?_
  refine a_l1 rfl rfl rfl ?_
  refine a_getiv (v := I b 12) rfl gfX5_69_5 (kS0 hb) (by simp (disch := omega) only [up2_row, upr_row]) ?_
  refine a_puti rfl pfX5_69_5 (kS0 ha) ?_
  refine a_l0 rfl rfl rfl ?_
  refine a_l1 rfl rfl rfl ?_
  refine a_getiv (v := I b 13) rfl gfX5_40_5 (kS0 hb) (by simp (disch := omega) only [up2_row, upr_row]) ?_
  refine a_puti rfl pfX5_40_5 (kS0 ha) ?_
  refine a_l0 rfl rfl rfl ?_
  refine a_l1 rfl rfl rfl ?_
  refine a_getiv (v := I b 14) rfl gfX5_43_5 (kS0 hb) (by simp (disch := omega) only [up2_row, upr_row]) ?_
  refine a_puti rfl pfX5_43_5 (kS0 ha) ?_
  refine a_l0 rfl rfl rfl ?_
  refine a_l1 rfl rfl rfl ?_
  refine a_getiv (v := I b 15) rfl gfX5_46_5 (kS0 hb) (by simp (disch := omega) only [up2_row, upr_row]) ?_
  refine a_puti rfl pfX5_46_5 (kS0 ha) ?_
  refine a_l0 rfl rfl rfl ?_
  refine a_l1 rfl rfl rfl ?_
  refine a_getiv (v := I b 16) rfl gfX5_72_5 (kS0 hb) (by simp (disch := omega) only [up2_row, upr_row]) ?_
  refine a_puti rfl pfX5_72_5 (kS0 ha) ?_
  refine a_congr (I' := cpS I a b 9) (fun p k hm => ?_) (a_vret rfl rfl ⟨rfl, rfl⟩)
  by_cases h : a ≤ p ∧ p < a + 9
  · obtain ⟨i, rfl⟩ := Nat.exists_eq_add_of_le h.1
    have hi : i < 9 := by omega
    rw [cpS_in hi]
    rcases i with _ | _ | _ | _ | _ | _ | _ | _ | _ | i
    · have hk : (Nat.blt k 18 && isIntTy (tyX5 k)) = true := by
        unfold mI at hm
        rw [show a + 0 = a from rfl, kS0 ha] at hm
        exact hm
      simp (disch := omega) only [Nat.add_zero, upr_row]
      rcases k with _ | _ | _ | _ | _ | _ | _ | _ | _ | _ | _ | _ | _ | _ | _ | _ | _ | _ | k <;> first | (cases hk; done) | (simp [up2, upr]; done) | skip
    all_goals first | (simp (disch := omega) only [up2_row, upr_row, upr_at]; done) | (exfalso; omega)
  · rw [cpS_out h]
    simp (disch := omega) only [up2_row, upr_row]
theorem sp_X1_copyFrom {S : aS} {I : Nat → Nat → Int32} {L : Nat → Nat → Int64} {w1 w2 t : Nat} {a b : Nat} (ha : stp a) (hb : stp b) (hne : a ≠ b) : SpE S m_X1_copyFrom 13 [.ref (a + 9), .ref (b + 9)] (hp I L w1 w2 t) none (hp (cpS I (a + 9) (b + 9) 2) L w1 w2 t) := by
  refine SpE_of ok_X1_copyFrom rfl rfl ?_
  show AW S m_X1_copyFrom 13 _ _ 0 0 0 [some (.ref (a + 9)), some (.ref (b + 9))] [] (hp I L w1 w2 t)
  have hd := stp_apart a ha b hb hne
  refine a_l0 rfl rfl rfl ?_
  refine a_l1 rfl rfl rfl ?_
  refine a_getiv (v := I (b + 9) 0) rfl gfX1_15_1 (kS9 hb) (by simp (disch := omega) only [up2_row, upr_row]) ?_
  refine a_puti rfl pfX1_15_1 (kS9 ha) ?_
  refine a_l0 rfl rfl rfl ?_
  refine a_l1 rfl rfl rfl ?_
  refine a_getiv (v := I (b + 9) 1) rfl gfX1_19_1 (kS9 hb) (by simp (disch := omega) only [up2_row, upr_row]) ?_
  refine a_puti rfl pfX1_19_1 (kS9 ha) ?_
  refine a_l1 rfl rfl rfl ?_
  refine a_getq rfl gfX1_11_1 (kS9 hb) (rS29 hb) ?_
  refine a_l0 rfl rfl rfl ?_
  refine a_getq rfl gfX1_11_1 (kS9 ha) (rS29 ha) ?_
  refine a_eSN0 rfl lX1_22 mo_X11_copyRow (sp_X11_copyRow (f := I (b + 10)) (kS10 hb) (kS10 ha) (by simp (disch := omega) only [up2_row, upr_row])) rfl rfl rfl rfl ?_
  refine a_congr (I' := cpS I (a + 9) (b + 9) 2) (fun p k hm => ?_) (a_vret rfl rfl ⟨rfl, rfl⟩)
  by_cases h : a + 9 ≤ p ∧ p < a + 9 + 2
  · obtain ⟨i, rfl⟩ := Nat.exists_eq_add_of_le h.1
    have hi : i < 2 := by omega
    rw [cpS_in hi]
    rcases i with _ | _ | i
    · have hk : (Nat.blt k 3 && isIntTy (tyX1 k)) = true := by
        unfold mI at hm
        rw [show a + 9 + 0 = a + 9 from rfl, kS9 ha] at hm
        exact hm
      simp (disch := omega) only [Nat.add_zero, upr_row]
      rcases k with _ | _ | _ | k <;> first | (cases hk; done) | (simp [up2, upr]; done) | skip
    all_goals first | (simp (disch := omega) only [up2_row, upr_row, upr_at]; done) | (show upr _ (a + 10) _ (a + 10) _ = _; rw [upr_at]; done) | (exfalso; omega)
  · rw [cpS_out h]
    simp (disch := omega) only [up2_row, upr_row]
theorem sp_X5_copyAll {S : aS} {I : Nat → Nat → Int32} {L : Nat → Nat → Int64} {w1 w2 t : Nat} {a b : Nat} (ha : stp a) (hb : stp b) (hne : a ≠ b) : SpE S m_X5_copyAll 14 [.ref a, .ref b] (hp I L w1 w2 t) none (hp (cpS I a b 11) L w1 w2 t) := by
  refine SpE_of ok_X5_copyAll rfl rfl ?_
  show AW S m_X5_copyAll 14 _ _ 0 0 0 [some (.ref a), some (.ref b)] [] (hp I L w1 w2 t)
  refine a_l0 rfl rfl rfl ?_
  refine a_l1 rfl rfl rfl ?_
  refine a_eV0 rfl lX5_75 mo_X5_copyFrom (sp_X5_copyFrom ha hb hne) rfl rfl rfl ⟨5, _, (kS0 ha), rfl, rfl⟩ rfl ?_
  refine a_l0 rfl rfl rfl ?_
  refine a_getq rfl gfX5_52_5 (kS0 ha) (rS17 ha) ?_
  refine a_l1 rfl rfl rfl ?_
  refine a_getq rfl gfX5_52_5 (kS0 hb) (rS17 hb) ?_
  refine a_eV0 rfl lX5_79 mo_X1_copyFrom (sp_X1_copyFrom ha hb hne) rfl rfl rfl ⟨1, _, (kS9 ha), rfl, rfl⟩ rfl ?_
  refine a_vret rfl rfl ⟨rfl, by rw [cpS_all (stp_apart a ha b hb hne)]⟩
theorem sp_X2_copyFrom {S : aS} {I : Nat → Nat → Int32} {L : Nat → Nat → Int64} {w1 w2 t : Nat} {a b : Nat} (ha : lwp a) (hb : lwp b) (hne : a ≠ b) : SpE S m_X2_copyFrom 13 [.ref a, .ref b] (hp I L w1 w2 t) none (hp (cpL I a b) L w1 w2 t) := by
  refine SpE_of ok_X2_copyFrom rfl rfl ?_
  show AW S m_X2_copyFrom 13 _ _ 0 0 0 [some (.ref a), some (.ref b)] [] (hp I L w1 w2 t)
  have hd := lwp_apart a ha b hb hne
  refine a_l0 rfl rfl rfl ?_
  refine a_l1 rfl rfl rfl ?_
  refine a_getiv (v := I b 0) rfl gfX2_11_2 (kW0 hb) (by simp (disch := omega) only [up2_row, upr_row]) ?_
  refine a_puti rfl pfX2_11_2 (kW0 ha) ?_
  refine a_l1 rfl rfl rfl ?_
  refine a_getq rfl gfX2_15_2 (kW0 hb) (rW2 hb) ?_
  refine a_l0 rfl rfl rfl ?_
  refine a_getq rfl gfX2_15_2 (kW0 ha) (rW2 ha) ?_
  refine a_eSN0 rfl lX2_37 mo_X11_copyRow (sp_X11_copyRow (f := I (b + 1)) (kW1 hb) (kW1 ha) (by simp (disch := omega) only [up2_row, upr_row])) rfl rfl rfl rfl ?_
  refine a_l1 rfl rfl rfl ?_
  refine a_getq rfl gfX2_19_2 (kW0 hb) (rW3 hb) ?_
  refine a_l0 rfl rfl rfl ?_
  refine a_getq rfl gfX2_19_2 (kW0 ha) (rW3 ha) ?_
  refine a_eSN0 rfl lX2_37 mo_X11_copyRow (sp_X11_copyRow (f := I (b + 2)) (kW2 hb) (kW2 ha) (by simp (disch := omega) only [up2_row, upr_row])) rfl rfl rfl rfl ?_
  refine a_l1 rfl rfl rfl ?_
  refine a_getq rfl gfX2_22_2 (kW0 hb) (rW4 hb) ?_
  refine a_l0 rfl rfl rfl ?_
  refine a_getq rfl gfX2_22_2 (kW0 ha) (rW4 ha) ?_
  refine a_eSN0 rfl lX2_37 mo_X11_copyRow (sp_X11_copyRow (f := I (b + 3)) (kW3 hb) (kW3 ha) (by simp (disch := omega) only [up2_row, upr_row])) rfl rfl rfl rfl ?_
  refine a_l1 rfl rfl rfl ?_
  refine a_getq rfl gfX2_25_2 (kW0 hb) (rW5 hb) ?_
  refine a_l0 rfl rfl rfl ?_
  refine a_getq rfl gfX2_25_2 (kW0 ha) (rW5 ha) ?_
  refine a_eSN0 rfl lX2_37 mo_X11_copyRow (sp_X11_copyRow (f := I (b + 4)) (kW4 hb) (kW4 ha) (by simp (disch := omega) only [up2_row, upr_row])) rfl rfl rfl rfl ?_
  refine a_l1 rfl rfl rfl ?_
  refine a_getq rfl gfX2_28_2 (kW0 hb) (rW6 hb) ?_
  refine a_l0 rfl rfl rfl ?_
  refine a_getq rfl gfX2_28_2 (kW0 ha) (rW6 ha) ?_
  refine a_eSN0 rfl lX2_37 mo_X11_copyRow (sp_X11_copyRow (f := I (b + 5)) (kW5 hb) (kW5 ha) (by simp (disch := omega) only [up2_row, upr_row])) rfl rfl rfl rfl ?_
  refine a_congr (I' := cpL I a b) (fun p k hm => ?_) (a_vret rfl rfl ⟨rfl, rfl⟩)
  unfold cpL
  by_cases h : a + 1 ≤ p ∧ p < a + 1 + 5
  · rw [up2_row (by omega)]
    obtain ⟨i, rfl⟩ := Nat.exists_eq_add_of_le h.1
    have hi : i < 5 := by omega
    rw [cpS_in hi]
    rcases i with _ | _ | _ | _ | _ | i
    all_goals first | (simp (disch := omega) only [Nat.add_zero, up2_row, upr_row, upr_at]; done) | (simp (disch := omega) only [up2_row, upr_row]; rw [show b + 1 + 1 = b + 2 from rfl]; show upr _ (a + 2) _ (a + 2) k = _; rw [upr_at]; done) | (exfalso; omega) | skip
  · by_cases hp : p = a
    · subst hp
      simp (disch := omega) only [upr_row]
      by_cases hk : k = 0
      · subst hk
        rw [up2_at, up2_at]
      · rw [up2_ne (Or.inr hk), up2_ne (Or.inr hk), cpS_out (by omega)]
    · rw [up2_row hp, cpS_out h]
      simp (disch := omega) only [up2_row, upr_row]
theorem sp_X12_keepsAll {S : aS} {I : Nat → Nat → Int32} {L : Nat → Nat → Int64} {w1 w2 t : Nat}  : SpE S m_X12_keepsAll 12 [.ref 420] (hp I L w1 w2 t) none (hp (cpP I 424 421 335) L w1 w2 t) := by
  refine SpE_of ok_X12_keepsAll rfl rfl ?_
  show AW S m_X12_keepsAll 12 _ _ 0 0 0 [some (.ref 420), none] [] (hp I L w1 w2 t)
  refine a_s rfl rfl ?_
  refine a_s1 rfl rfl rfl rfl rfl rfl ?_
  refine a_forE (n := 335) (fun j => [some (.ref 420), some (.int (nI j))]) (fun j => hp (cpP I 424 421 j) L w1 w2 t) (by simp [lsub, nI_0]) (by rw [cpP_0]) ?_ (fun j hj ih2 => ?_)
  · refine a_l1 rfl rfl rfl ?_
    refine a_s rfl rfl ?_
    refine a_ic_ge rfl (fun c6 => ?_) (fun c => absurd (Int32.le_refl _) c)
    refine a_vret rfl rfl ⟨rfl, rfl⟩
  · refine a_l1 rfl rfl rfl ?_
    refine a_s rfl rfl ?_
    refine a_ic_ge rfl (fun c => absurd c (nI_ge (b := 335) hj (by omega))) (fun c6 => ?_)
    refine a_l0 rfl rfl rfl ?_
    refine a_getq rfl gfX12_23_12 rfl (rfl) ?_
    refine a_l1 rfl rfl rfl ?_
    refine a_l0 rfl rfl rfl ?_
    refine a_getq rfl gfX12_13_12 rfl (rfl) ?_
    refine a_l1 rfl rfl rfl ?_
    refine a_ialdv (v := I 421 j) rfl (n := 2033) rfl (inI_nI (by omega) (by omega)) (by rw [nI_clamp (by omega), cpP_src (by decide)]) ?_
    refine a_iastv (k := j) rfl (n := 335) rfl (inI_nI (by omega) (by omega)) (nI_clamp (by omega)) ?_
    rw [cpP_succ]
    refine a_i1 rfl rfl rfl ?_
    refine a_goto rfl ?_
    exact a_back ih2 (by simp [lsub, nI_1]) rfl
theorem sp_X12_bringsBack {S : aS} {I : Nat → Nat → Int32} {L : Nat → Nat → Int64} {w1 w2 t : Nat}  : SpE S m_X12_bringsBack 12 [.ref 420] (hp I L w1 w2 t) none (hp (cpP I 421 424 335) L w1 w2 t) := by
  refine SpE_of ok_X12_bringsBack rfl rfl ?_
  show AW S m_X12_bringsBack 12 _ _ 0 0 0 [some (.ref 420), none] [] (hp I L w1 w2 t)
  refine a_s rfl rfl ?_
  refine a_s1 rfl rfl rfl rfl rfl rfl ?_
  refine a_forE (n := 335) (fun j => [some (.ref 420), some (.int (nI j))]) (fun j => hp (cpP I 421 424 j) L w1 w2 t) (by simp [lsub, nI_0]) (by rw [cpP_0]) ?_ (fun j hj ih2 => ?_)
  · refine a_l1 rfl rfl rfl ?_
    refine a_s rfl rfl ?_
    refine a_ic_ge rfl (fun c6 => ?_) (fun c => absurd (Int32.le_refl _) c)
    refine a_vret rfl rfl ⟨rfl, rfl⟩
  · refine a_l1 rfl rfl rfl ?_
    refine a_s rfl rfl ?_
    refine a_ic_ge rfl (fun c => absurd c (nI_ge (b := 335) hj (by omega))) (fun c6 => ?_)
    refine a_l0 rfl rfl rfl ?_
    refine a_getq rfl gfX12_13_12 rfl (rfl) ?_
    refine a_l1 rfl rfl rfl ?_
    refine a_l0 rfl rfl rfl ?_
    refine a_getq rfl gfX12_23_12 rfl (rfl) ?_
    refine a_l1 rfl rfl rfl ?_
    refine a_ialdv (v := I 424 j) rfl (n := 335) rfl (inI_nI (by omega) (by omega)) (by rw [nI_clamp (by omega), cpP_src (by decide)]) ?_
    refine a_iastv (k := j) rfl (n := 2033) rfl (inI_nI (by omega) (by omega)) (nI_clamp (by omega)) ?_
    rw [cpP_succ]
    refine a_i1 rfl rfl rfl ?_
    refine a_goto rfl ?_
    exact a_back ih2 (by simp [lsub, nI_1]) rfl
end
section
/-! ===== numbers in ranges, throwing, small things (general) ===== -/
abbrev eIO : String := "java/lang/IndexOutOfBoundsException"
theorem Sp.weaken {S : aS} {C : aM} {d k1 k2 : Nat} {args : List Value} {h : aH} {Q Q' : Option Value → aH → Prop} {X X' : String → aH → Prop} (k : Sp S C d k1 k2 args h Q X) (hQ : ∀ v h', Q v h' → Q' v h') (hX : ∀ E h', X E h' → X' E h') : Sp S C d k1 k2 args h Q' X' := by
  intro l G hl p e ha f1 f2 s m av below hfr hap hP hK
  obtain ⟨n, o, z1, z2, z3, z4⟩ := k l G hl p e ha f1 f2 s m av below hfr hap hP hK
  refine ⟨n, o, z1, z2, z3, ?_⟩
  rcases z4 with ⟨⟨v, h', e1, e2, e3⟩, z5⟩ | ⟨q, e1, E, ce, L, ⟨h', x1, x2⟩, rest⟩
  · exact Or.inl ⟨⟨v, h', e1, hQ v h' e2, e3⟩, z5⟩
  · exact Or.inr ⟨q, e1, E, ce, L, ⟨h', hX E h' x1, x2⟩, rest⟩
section U42
variable {S : aS} {C C' : aM} {d d' : Nat} {Q : Option Value → aH → Prop} {X : String → aH → Prop} {k1 k2 pc np tgt n : Nat} {w : Int32} {ls : List (Option Value)} {st st0 : List Value} {h h' : aH} {As : List Value} {v : Value}
theorem a_eU1 {idx q : Nat} {x : MethodName} {owner cn : String} (hC : look C pc = some (.invokevirtual idx, np, tgt, w)) (hl : ∀ z ∈ [Cond.methodLink C.1.cls idx x, .sameMethod x.cls owner x.name x.desc, .selects cn x C'.1, .instanceMethod C'.1], inT z) (hdc : ∀ (G : aG) (s : State), SW S G s → va_Decl s ⟨owner, x.name, x.desc⟩) (hM : MO C' n) (hx : owner ≠ "java/lang/invoke/MethodHandle" ∧ owner ≠ "java/lang/invoke/VarHandle" ∧ (parseMethodDescriptor x.desc).map (fun d => d.parameters.length) = some n) (hs : SpE S C' d' (.ref q :: As) h (some v) h') (hn : As.length = n) (h0 : st0 = As.reverse ++ .ref q :: st) (ho : cOk d d' 0 0 k1 k2 st = true) (hq : rcv h q cn) (hh : C.2.2.2.2.1 = []) (kk : AW S C d Q X k1 k2 np ls (v :: st) h') : AW S C d Q X k1 k2 pc ls st0 h := by
  refine a_callU hC hl hdc hM hx hs hn h0 ho hq hh (fun v h' hv => ?_) (fun E h' hx => False.elim hx)
  obtain ⟨rfl, rfl⟩ := hv
  exact kk
theorem all4 {α : Type} {P : α → Prop} {a b c e : α} (h1 : P a) (h2 : P b) (h3 : P c) (h4 : P e) : ∀ z ∈ [a, b, c, e], P z := by
  intro z hz
  simp only [List.mem_cons, List.not_mem_nil, or_false] at hz
  rcases hz with rfl | rfl | rfl | rfl <;> assumption
end U42
def cpW (I : Nat → Nat → Int32) (j : Nat) : Nat → Nat → Int32 := upr I 421 (fun k => if 335 ≤ k ∧ k < 335 + j then I 421 (k + 849) else I 421 k)
theorem cpW_0 {I : Nat → Nat → Int32} : cpW I 0 = I := by
  funext x
  unfold cpW upr
  split
  · next h =>
    subst h
    funext k
    rw [if_neg (by omega)]
  · rfl
theorem cpW_src {I : Nat → Nat → Int32} {j : Nat} (hj : j < 849) : cpW I j 421 (1184 + j) = I 421 (1184 + j) := by
  unfold cpW
  rw [upr_at, if_neg (by omega)]
theorem cpW_succ {I : Nat → Nat → Int32} {j : Nat} : up2 (cpW I j) 421 (335 + j) (I 421 (1184 + j)) = cpW I (j + 1) := by
  funext x k
  by_cases hx : x = 421
  · subst hx
    by_cases hk : k = 335 + j
    · subst hk
      rw [up2_at]
      unfold cpW
      rw [upr_at, if_pos (by omega), show 335 + j + 849 = 1184 + j by omega]
    · rw [up2_ne (Or.inr hk)]
      unfold cpW
      rw [upr_at, upr_at]
      by_cases h : 335 ≤ k ∧ k < 335 + j
      · rw [if_pos h, if_pos (by omega)]
      · rw [if_neg h, if_neg (by omega)]
  · rw [up2_row hx]
    unfold cpW
    rw [upr_row hx, upr_row hx]
def inB (x a b : Int32) : Bool := decide (a ≤ x ∧ x ≤ b)
set_option maxRecDepth 100000
theorem sp_X12_in {S : aS} {h : aH} {x a b : Int32} : SpE S m_X12_in 12 [.int x, .int a, .int b] (h) (some (.int (bI (inB x a b)))) (h) := by
  refine SpE_of ok_X12_in rfl rfl ?_
  show AW S m_X12_in 12 _ _ 0 0 0 [some (.int x), some (.int a), some (.int b)] [] (h)
  refine a_l0 rfl rfl rfl ?_
  refine a_l1 rfl rfl rfl ?_
  refine a_ic_lt rfl (fun c2 => ?_) (fun c2 => ?_)
  · refine a_s rfl rfl ?_
    refine a_zret rfl rfl rfl ⟨by simp_all [inB, bI, le_nl, -Int32.not_lt, -Int32.not_le], rfl⟩
  · refine a_l0 rfl rfl rfl ?_
    refine a_l2 rfl rfl rfl ?_
    refine a_ic_gt rfl (fun c7 => ?_) (fun c7 => ?_)
    · refine a_s rfl rfl ?_
      refine a_zret rfl rfl rfl ⟨by simp_all [inB, bI, le_nl, -Int32.not_lt, -Int32.not_le], rfl⟩
    · refine a_s rfl rfl ?_
      refine a_goto rfl ?_
      refine a_zret rfl rfl rfl ⟨by simp_all [inB, bI, le_nl, -Int32.not_lt, -Int32.not_le], rfl⟩
theorem sp_X12_noKerb {S : aS} {h : aH} {x : Int32} : SpE S m_X12_noKerb 13 [.int x] (h) (some (.int (bI (!inB x 0 15)))) (h) := by
  refine SpE_of ok_X12_noKerb rfl rfl ?_
  show AW S m_X12_noKerb 13 _ _ 0 0 0 [some (.int x)] [] (h)
  refine a_l0 rfl rfl rfl ?_
  refine a_s rfl rfl ?_
  refine a_s rfl rfl ?_
  refine a_eS1 rfl lX12_70 mo_X12_in (sp_X12_in) rfl rfl rfl rfl ?_
  refine a_if_ne rfl (fun c7 => ?_) (fun c7 => ?_)
  · refine a_s rfl rfl ?_
    refine a_zret rfl rfl rfl ⟨by simp_all [bI_0, bI], rfl⟩
  · refine a_s rfl rfl ?_
    refine a_goto rfl ?_
    refine a_zret rfl rfl rfl ⟨by simp_all [bI_0, bI], rfl⟩
theorem sp_X12_noHour {S : aS} {h : aH} {x : Int32} : SpE S m_X12_noHour 13 [.int x] (h) (some (.int (bI (!inB x 0 300)))) (h) := by
  refine SpE_of ok_X12_noHour rfl rfl ?_
  show AW S m_X12_noHour 13 _ _ 0 0 0 [some (.int x)] [] (h)
  refine a_l0 rfl rfl rfl ?_
  refine a_s rfl rfl ?_
  refine a_s rfl rfl ?_
  refine a_eS1 rfl lX12_70 mo_X12_in (sp_X12_in) rfl rfl rfl rfl ?_
  refine a_if_ne rfl (fun c8 => ?_) (fun c8 => ?_)
  · refine a_s rfl rfl ?_
    refine a_zret rfl rfl rfl ⟨by simp_all [bI_0, bI], rfl⟩
  · refine a_s rfl rfl ?_
    refine a_goto rfl ?_
    refine a_zret rfl rfl rfl ⟨by simp_all [bI_0, bI], rfl⟩
theorem sp_X12_noDays {S : aS} {h : aH} {x : Int32} : SpE S m_X12_noDays 13 [.int x] (h) (some (.int (bI (!inB x 0 90)))) (h) := by
  refine SpE_of ok_X12_noDays rfl rfl ?_
  show AW S m_X12_noDays 13 _ _ 0 0 0 [some (.int x)] [] (h)
  refine a_l0 rfl rfl rfl ?_
  refine a_s rfl rfl ?_
  refine a_s rfl rfl ?_
  refine a_eS1 rfl lX12_70 mo_X12_in (sp_X12_in) rfl rfl rfl rfl ?_
  refine a_if_ne rfl (fun c7 => ?_) (fun c7 => ?_)
  · refine a_s rfl rfl ?_
    refine a_zret rfl rfl rfl ⟨by simp_all [bI_0, bI], rfl⟩
  · refine a_s rfl rfl ?_
    refine a_goto rfl ?_
    refine a_zret rfl rfl rfl ⟨by simp_all [bI_0, bI], rfl⟩
theorem sp0_throwsIf {S : aS} {I : Nat → Nat → Int32} {L : Nat → Nat → Int64} {w1 w2 t : Nat} {x : Int32} : SpE S m_X12_throwsIf 12 [.ref 420, .int 0, .int x] (hp I L w1 w2 t) (some (.int 0)) (hp I L w1 w2 t) := by
  refine SpE_of ok_X12_throwsIf rfl rfl ?_
  show AW S m_X12_throwsIf 12 _ _ 0 0 0 [some (.ref 420), some (.int 0), some (.int x)] [] (hp I L w1 w2 t)
  refine a_l1 rfl rfl rfl ?_
  refine a_if_eq rfl (fun c1 => ?_) (fun c => absurd (rfl) c)
  refine a_l1 rfl rfl rfl ?_
  refine a_zret rfl rfl rfl ⟨rfl, rfl⟩
theorem sp_needNumber {S : aS} {h : aH} {x a b : Int32} (h1 : inB x a b = true) : SpE S m_X11_needNumber 12 [.int x, .int a, .int b] h none h := by
  have h1 := of_decide_eq_true h1
  refine SpE_of ok_X11_needNumber rfl rfl ?_
  show AW S m_X11_needNumber 12 _ _ 0 0 0 [some (.int x), some (.int a), some (.int b)] [] h
  refine a_l0 rfl rfl rfl ?_
  refine a_l1 rfl rfl rfl ?_
  refine a_ic_lt rfl (fun c => absurd c (Int32.not_lt.mpr h1.1)) (fun c2 => ?_)
  refine a_l0 rfl rfl rfl ?_
  refine a_l2 rfl rfl rfl ?_
  refine a_ic_le rfl (fun c7 => ?_) (fun c => absurd (h1.2) c)
  refine a_vret rfl rfl ⟨rfl, rfl⟩
theorem spx_needNumber {S : aS} {I : Nat → Nat → Int32} {L : Nat → Nat → Int64} {w1 w2 t : Nat} {x a b : Int32} (h1 : inB x a b = false) : SpX S m_X11_needNumber 12 [.int x, .int a, .int b] (hp I L w1 w2 t) "java/lang/IllegalArgumentException" (hp I L w1 w2 0) := by
  have h1 := of_decide_eq_false h1
  refine SpX_of ok_X11_needNumber rfl rfl ?_
  show AW S m_X11_needNumber 12 _ _ 1 6 0 [some (.int x), some (.int a), some (.int b)] [] (hp I L w1 w2 t)
  refine a_l0 rfl rfl rfl ?_
  refine a_l1 rfl rfl rfl ?_
  refine a_ic_lt rfl (fun c2 => ?_) (fun c2 => ?_)
  · exact a_throw rfl rfl rfl rfl tX11_iae rfl rfl rfl rfl rfl ⟨rfl, rfl⟩
  · refine a_l0 rfl rfl rfl ?_
    refine a_l2 rfl rfl rfl ?_
    refine a_ic_le rfl (fun c => absurd c (fun z => h1 ⟨Int32.not_lt.mp c2, z⟩)) (fun c7 => ?_)
    exact a_throw rfl rfl rfl rfl tX11_iae rfl rfl rfl rfl rfl ⟨rfl, rfl⟩
theorem sp_needKerb {S : aS} {h : aH} {x : Int32} (h1 : inB x 0 15 = true) : SpE S m_X11_needKerb 12 [.int x] h none h := by
  have h1 := of_decide_eq_true h1
  refine SpE_of ok_X11_needKerb rfl rfl ?_
  show AW S m_X11_needKerb 12 _ _ 0 0 0 [some (.int x)] [] h
  refine a_l0 rfl rfl rfl ?_
  refine a_if_lt rfl (fun c => absurd c (Int32.not_lt.mpr h1.1)) (fun c1 => ?_)
  refine a_l0 rfl rfl rfl ?_
  refine a_s rfl rfl ?_
  refine a_ic_le rfl (fun c7 => ?_) (fun c => absurd (h1.2) c)
  refine a_vret rfl rfl ⟨rfl, rfl⟩
theorem spx_needKerb {S : aS} {I : Nat → Nat → Int32} {L : Nat → Nat → Int64} {w1 w2 t : Nat} {x : Int32} (h1 : inB x 0 15 = false) : SpX S m_X11_needKerb 12 [.int x] (hp I L w1 w2 t) eIO (hp I L w1 w2 0) := by
  have h1 := of_decide_eq_false h1
  refine SpX_of ok_X11_needKerb rfl rfl ?_
  show AW S m_X11_needKerb 12 _ _ 1 6 0 [some (.int x)] [] (hp I L w1 w2 t)
  refine a_l0 rfl rfl rfl ?_
  refine a_if_lt rfl (fun c1 => ?_) (fun c1 => ?_)
  · exact a_throw rfl rfl rfl rfl tX11_ioobe rfl rfl rfl rfl rfl ⟨rfl, rfl⟩
  · refine a_l0 rfl rfl rfl ?_
    refine a_s rfl rfl ?_
    refine a_ic_le rfl (fun c => absurd c (fun z => h1 ⟨Int32.not_lt.mp c1, z⟩)) (fun c7 => ?_)
    exact a_throw rfl rfl rfl rfl tX11_ioobe rfl rfl rfl rfl rfl ⟨rfl, rfl⟩

theorem sp_X12_duties {S : aS} {I : Nat → Nat → Int32} {L : Nat → Nat → Int64} {w1 w2 t : Nat} : SpE S m_X12_duties 12 [.ref 420] (hp I L w1 w2 t) (some (.int (I 421 1))) (hp I L w1 w2 t) := by
  refine SpE_of ok_X12_duties rfl rfl ?_
  show AW S m_X12_duties 12 _ _ 0 0 0 [some (.ref 420)] [] (hp I L w1 w2 t)
  refine a_l0 rfl rfl rfl ?_
  refine a_getq rfl gfX12_13_12 rfl (rfl) ?_
  refine a_s rfl rfl ?_
  refine a_iald rfl (n := 2033) rfl (⟨by decide, by decide⟩) ?_
  refine a_iret rfl rfl ⟨rfl, rfl⟩
theorem sp_X12_people {S : aS} {I : Nat → Nat → Int32} {L : Nat → Nat → Int64} {w1 w2 t : Nat} : SpE S m_X12_people 12 [.ref 420] (hp I L w1 w2 t) (some (.int (I 421 0))) (hp I L w1 w2 t) := by
  refine SpE_of ok_X12_people rfl rfl ?_
  show AW S m_X12_people 12 _ _ 0 0 0 [some (.ref 420)] [] (hp I L w1 w2 t)
  refine a_l0 rfl rfl rfl ?_
  refine a_getq rfl gfX12_13_12 rfl (rfl) ?_
  refine a_s rfl rfl ?_
  refine a_iald rfl (n := 2033) rfl (⟨by decide, by decide⟩) ?_
  refine a_iret rfl rfl ⟨rfl, rfl⟩
theorem sp1_throwsIf {S : aS} {I : Nat → Nat → Int32} {L : Nat → Nat → Int64} {w1 w2 t : Nat} {x : Int32} : SpE S m_X12_throwsIf 12 [.ref 420, .int 1, .int x] (hp I L w1 w2 t) (some (.int 1)) (hp (up2 I 420 0 x) L w1 w2 t) := by
  refine SpE_of ok_X12_throwsIf rfl rfl ?_
  show AW S m_X12_throwsIf 12 _ _ 0 0 0 [some (.ref 420), some (.int 1), some (.int x)] [] (hp I L w1 w2 t)
  refine a_l1 rfl rfl rfl ?_
  refine a_if_eq rfl (fun c => absurd c (by decide)) (fun c1 => ?_)
  refine a_l0 rfl rfl rfl ?_
  refine a_l2 rfl rfl rfl ?_
  refine a_puti rfl pfX12_3_12 rfl ?_
  refine a_l1 rfl rfl rfl ?_
  refine a_zret rfl rfl rfl ⟨rfl, rfl⟩
end
section
/-! ===== the reference: what is read off its world ===== -/
abbrev vd (W : Nat → Int32) (k d : Nat) : Int32 := W (23 + 6 * d + k)
abbrev vp (W : Nat → Int32) (k p : Nat) : Int32 := W (11 + 2 * p + k)
theorem nI_addl (a j : Nat) : nI a + nI j = nI (a + j) := by
  induction j with
  | zero => rw [nI_0, Int32.add_zero]; rfl
  | succ j ih => rw [nI_succ, ← Int32.add_assoc, ih, ← nI_succ]; rfl
theorem nI_mul (a j : Nat) : nI a * nI j = nI (a * j) := by
  induction j with
  | zero => rw [nI_0, Int32.mul_zero, Nat.mul_zero, nI_0]
  | succ j ih => rw [nI_succ, Int32.mul_add, ih, Int32.mul_one, nI_addl, Nat.mul_succ]
theorem nI_inj {a b : Nat} (ha : a < 2 ^ 31) (hb : b < 2 ^ 31) (h : nI a = nI b) : a = b := by
  have h2 := congrArg Int32.toInt h
  rw [nI_toInt ha, nI_toInt hb] at h2
  omega
theorem idxD (d k : Nat) : (23 : Int32) + 6 * nI d + nI k = nI (23 + 6 * d + k) := by
  rw [show (6 : Int32) = nI 6 from rfl, show (23 : Int32) = nI 23 from rfl, nI_mul, nI_addl, nI_addl]
theorem idxP (d k : Nat) : (11 : Int32) + 2 * nI d + nI k = nI (11 + 2 * d + k) := by
  rw [show (2 : Int32) = nI 2 from rfl, show (11 : Int32) = nI 11 from rfl, nI_mul, nI_addl, nI_addl]
theorem bit_lt {d : Nat} (h : d < 31) : (1 : Int32) <<< (nI d &&& 31) = bitF (nI d) := by
  unfold bitF
  rw [if_neg (nI_pos (by omega)), if_neg (show ¬ 31 ≤ nI d from nI_ge (b := 31) h (by omega))]
theorem and1 (x : Int32) : x &&& 1 = 0 ∨ x &&& 1 = 1 := by
  obtain ⟨n, hn, e⟩ : ∃ n : Nat, n < 2 ∧ x &&& 1 = nI n := by
    refine ⟨(x &&& 1).toBitVec.toNat, ?_, ?_⟩
    · have h : (x &&& 1).toBitVec.toNat = x.toBitVec.toNat &&& 1 := by
        rw [Int32.toBitVec_and, BitVec.toNat_and]
        rfl
      rw [h]
      exact Nat.lt_succ_of_le Nat.and_le_right
    · apply Int32.toBitVec_inj.mp
      show _ = (Int32.ofNat _).toBitVec
      rw [Int32.toBitVec_ofNat', BitVec.ofNat_toNat, BitVec.setWidth_eq]
  rw [e]
  rcases n with _ | _ | n
  · exact Or.inl rfl
  · exact Or.inr rfl
  · omega
theorem nI_ltu {n j : Nat} (h : n < j) (hj : j < 2 ^ 31) : nI n < nI j := Int32.lt_iff_toInt_lt.mpr (by rw [nI_toInt (by omega), nI_toInt hj]; omega)
theorem nI_nlu {n j : Nat} (h : j ≤ n) (hn : n < 2 ^ 31) : ¬ nI n < nI j := fun z => by
  have := Int32.lt_iff_toInt_lt.mp z
  rw [nI_toInt hn, nI_toInt (by omega)] at this
  omega
theorem nI_dec (n : Nat) : nI (n + 1) - 1 = nI n := by rw [nI_succ, Int32.add_sub_cancel]
theorem nI_decm (n : Nat) : nI (n + 1) + -1 = nI n := by rw [← Int32.sub_eq_add_neg, nI_dec]
theorem nI_lt_of {a b : Nat} (h : ¬ nI b ≤ nI a) (ha : a < 2 ^ 31) (hb : b < 2 ^ 31) : a < b := by
  rw [Int32.le_iff_toInt_le, nI_toInt ha, nI_toInt hb] at h
  omega
theorem nI_le_of {a b : Nat} (h : ¬ nI b < nI a) (ha : a < 2 ^ 31) (hb : b < 2 ^ 31) : a ≤ b := by
  rw [Int32.lt_iff_toInt_lt, nI_toInt ha, nI_toInt hb] at h
  omega
theorem nI_ge_of {a b : Nat} (h : nI b ≤ nI a) (ha : a < 2 ^ 31) (hb : b < 2 ^ 31) : b ≤ a := by
  rw [Int32.le_iff_toInt_le, nI_toInt ha, nI_toInt hb] at h
  omega
theorem bI_t {b : Bool} (h : ¬ bI b = 0) : b = true := by cases b <;> simp_all [bI]
theorem bI_f {b : Bool} (h : bI b = 0) : b = false := by cases b <;> simp_all [bI]
theorem cntF_t {n : Nat} {P : Nat → Bool} (h : P n = true) : cntF (n + 1) P = cntF n P + 1 := by simp [cntF, h]
theorem cntF_f {n : Nat} {P : Nat → Bool} (h : P n = false) : cntF (n + 1) P = cntF n P := by simp [cntF, h]
def lwF (W : Nat → Int32) (d : Nat) : Bool := decide (vd W 4 d = -1 ∨ vd W 5 (vd W 4 d).toNatClampNeg = 1)
def LeW (nd : Nat) (W : Nat → Int32) : Prop := ∀ d, d < nd → vd W 4 d = -1 ∨ ∃ e, e < nd ∧ vd W 4 d = nI e
set_option maxRecDepth 100000
theorem sp_X12_at {S : aS} {h : aH} {d k : Nat} : SpE S m_X12_at 12 [.int (nI d), .int (nI k)] (h) (some (.int (nI (23 + 6 * d + k)))) (h) := by
  refine SpE_of ok_X12_at rfl rfl ?_
  show AW S m_X12_at 12 _ _ 0 0 0 [some (.int (nI d)), some (.int (nI k))] [] (h)
  refine a_s rfl rfl ?_
  refine a_s rfl rfl ?_
  refine a_l0 rfl rfl rfl ?_
  refine a_s rfl rfl ?_
  refine a_s rfl rfl ?_
  refine a_l1 rfl rfl rfl ?_
  refine a_s rfl rfl ?_
  refine a_iret rfl rfl ⟨by rw [← idxD], rfl⟩
theorem sp_X12_personAt {S : aS} {h : aH} {d k : Nat} : SpE S m_X12_personAt 12 [.int (nI d), .int (nI k)] (h) (some (.int (nI (11 + 2 * d + k)))) (h) := by
  refine SpE_of ok_X12_personAt rfl rfl ?_
  show AW S m_X12_personAt 12 _ _ 0 0 0 [some (.int (nI d)), some (.int (nI k))] [] (h)
  refine a_s rfl rfl ?_
  refine a_s rfl rfl ?_
  refine a_l0 rfl rfl rfl ?_
  refine a_s rfl rfl ?_
  refine a_s rfl rfl ?_
  refine a_l1 rfl rfl rfl ?_
  refine a_s rfl rfl ?_
  refine a_iret rfl rfl ⟨by rw [← idxP], rfl⟩
theorem sp_X12_of {S : aS} {I : Nat → Nat → Int32} {L : Nat → Nat → Int64} {w1 w2 t : Nat} {d k : Nat} (hd : d < 12) (hk : k < 6) : SpE S m_X12_of 13 [.ref 420, .int (nI d), .int (nI k)] (hp I L w1 w2 t) (some (.int (vd (I 421) k d))) (hp I L w1 w2 t) := by
  refine SpE_of ok_X12_of rfl rfl ?_
  show AW S m_X12_of 13 _ _ 0 0 0 [some (.ref 420), some (.int (nI d)), some (.int (nI k))] [] (hp I L w1 w2 t)
  refine a_l0 rfl rfl rfl ?_
  refine a_getq rfl gfX12_13_12 rfl (rfl) ?_
  refine a_l1 rfl rfl rfl ?_
  refine a_l2 rfl rfl rfl ?_
  refine a_eS1 rfl lX12_60 mo_X12_at (sp_X12_at) rfl rfl rfl rfl ?_
  refine a_ialdv (v := vd (I 421) k d) rfl (n := 2033) rfl (inI_nI (by omega) (by omega)) (by rw [nI_clamp (by omega)]) ?_
  refine a_iret rfl rfl ⟨rfl, rfl⟩
theorem sp_X12_ofPerson {S : aS} {I : Nat → Nat → Int32} {L : Nat → Nat → Int64} {w1 w2 t : Nat} {d k : Nat} (hd : d < 6) (hk : k < 2) : SpE S m_X12_ofPerson 13 [.ref 420, .int (nI d), .int (nI k)] (hp I L w1 w2 t) (some (.int (vp (I 421) k d))) (hp I L w1 w2 t) := by
  refine SpE_of ok_X12_ofPerson rfl rfl ?_
  show AW S m_X12_ofPerson 13 _ _ 0 0 0 [some (.ref 420), some (.int (nI d)), some (.int (nI k))] [] (hp I L w1 w2 t)
  refine a_l0 rfl rfl rfl ?_
  refine a_getq rfl gfX12_13_12 rfl (rfl) ?_
  refine a_l1 rfl rfl rfl ?_
  refine a_l2 rfl rfl rfl ?_
  refine a_eS1 rfl lX12_56 mo_X12_personAt (sp_X12_personAt) rfl rfl rfl rfl ?_
  refine a_ialdv (v := vp (I 421) k d) rfl (n := 2033) rfl (inI_nI (by omega) (by omega)) (by rw [nI_clamp (by omega)]) ?_
  refine a_iret rfl rfl ⟨rfl, rfl⟩
theorem sp_X12_isWaiting {S : aS} {I : Nat → Nat → Int32} {L : Nat → Nat → Int64} {w1 w2 t : Nat} {d : Nat} (hd : d < 12) : SpE S m_X12_isWaiting 14 [.ref 420, .int (nI d)] (hp I L w1 w2 t) (some (.int (bI (decide (vd (I 421) 5 d = 0))))) (hp I L w1 w2 t) := by
  refine SpE_of ok_X12_isWaiting rfl rfl ?_
  show AW S m_X12_isWaiting 14 _ _ 0 0 0 [some (.ref 420), some (.int (nI d))] [] (hp I L w1 w2 t)
  refine a_l0 rfl rfl rfl ?_
  refine a_l1 rfl rfl rfl ?_
  refine a_s rfl rfl ?_
  refine a_eV1 rfl lX12_63 mo_X12_of (sp_X12_of (d := d) (k := 5) hd (by decide)) rfl rfl rfl ⟨12, _, rfl, rfl, rfl⟩ rfl ?_
  refine a_if_ne rfl (fun c6 => ?_) (fun c6 => ?_)
  · refine a_s rfl rfl ?_
    refine a_zret rfl rfl rfl ⟨by simp [bI, *], rfl⟩
  · refine a_s rfl rfl ?_
    refine a_goto rfl ?_
    refine a_zret rfl rfl rfl ⟨by simp [bI, *], rfl⟩
theorem sp_X12_isDone {S : aS} {I : Nat → Nat → Int32} {L : Nat → Nat → Int64} {w1 w2 t : Nat} {d : Nat} (hd : d < 12) : SpE S m_X12_isDone 14 [.ref 420, .int (nI d)] (hp I L w1 w2 t) (some (.int (bI (decide (vd (I 421) 5 d = 1))))) (hp I L w1 w2 t) := by
  refine SpE_of ok_X12_isDone rfl rfl ?_
  show AW S m_X12_isDone 14 _ _ 0 0 0 [some (.ref 420), some (.int (nI d))] [] (hp I L w1 w2 t)
  refine a_l0 rfl rfl rfl ?_
  refine a_l1 rfl rfl rfl ?_
  refine a_s rfl rfl ?_
  refine a_eV1 rfl lX12_63 mo_X12_of (sp_X12_of (d := d) (k := 5) hd (by decide)) rfl rfl rfl ⟨12, _, rfl, rfl, rfl⟩ rfl ?_
  refine a_s rfl rfl ?_
  refine a_ic_ne rfl (fun c7 => ?_) (fun c7 => ?_)
  · refine a_s rfl rfl ?_
    refine a_zret rfl rfl rfl ⟨by simp [bI, *], rfl⟩
  · refine a_s rfl rfl ?_
    refine a_goto rfl ?_
    refine a_zret rfl rfl rfl ⟨by simp [bI, *], rfl⟩
theorem sp_X12_isForgotten {S : aS} {I : Nat → Nat → Int32} {L : Nat → Nat → Int64} {w1 w2 t : Nat} {d : Nat} (hd : d < 12) : SpE S m_X12_isForgotten 14 [.ref 420, .int (nI d)] (hp I L w1 w2 t) (some (.int (bI (decide (vd (I 421) 5 d = 2))))) (hp I L w1 w2 t) := by
  refine SpE_of ok_X12_isForgotten rfl rfl ?_
  show AW S m_X12_isForgotten 14 _ _ 0 0 0 [some (.ref 420), some (.int (nI d))] [] (hp I L w1 w2 t)
  refine a_l0 rfl rfl rfl ?_
  refine a_l1 rfl rfl rfl ?_
  refine a_s rfl rfl ?_
  refine a_eV1 rfl lX12_63 mo_X12_of (sp_X12_of (d := d) (k := 5) hd (by decide)) rfl rfl rfl ⟨12, _, rfl, rfl, rfl⟩ rfl ?_
  refine a_s rfl rfl ?_
  refine a_ic_ne rfl (fun c7 => ?_) (fun c7 => ?_)
  · refine a_s rfl rfl ?_
    refine a_zret rfl rfl rfl ⟨by simp [bI, *], rfl⟩
  · refine a_s rfl rfl ?_
    refine a_goto rfl ?_
    refine a_zret rfl rfl rfl ⟨by simp [bI, *], rfl⟩
theorem sp_X12_has {S : aS} {h : aH} {s : Int32} {d : Nat} : SpE S m_X12_has 12 [.int s, .int (nI d)] (h) (some (.int (bI (shb s d)))) (h) := by
  refine SpE_of ok_X12_has rfl rfl ?_
  show AW S m_X12_has 12 _ _ 0 0 0 [some (.int s), some (.int (nI d))] [] (h)
  refine a_l0 rfl rfl rfl ?_
  refine a_l1 rfl rfl rfl ?_
  refine a_s rfl rfl ?_
  refine a_s rfl rfl ?_
  refine a_s rfl rfl ?_
  refine a_s rfl rfl ?_
  refine a_ic_ne rfl (fun c6 => ?_) (fun c6 => ?_)
  · refine a_s rfl rfl ?_
    refine a_zret rfl rfl rfl ⟨by rcases and1 (s >>> (nI d &&& 31)) with e | e <;> simp_all [shb, bI], rfl⟩
  · refine a_s rfl rfl ?_
    refine a_goto rfl ?_
    refine a_zret rfl rfl rfl ⟨by rcases and1 (s >>> (nI d &&& 31)) with e | e <;> simp_all [shb, bI], rfl⟩
theorem sp_X12_leansWell {S : aS} {I : Nat → Nat → Int32} {L : Nat → Nat → Int64} {w1 w2 t : Nat} {nd d : Nat} (hn : nd ≤ 12) (hd : d < nd) (hl : LeW nd (I 421)) : SpE S m_X12_leansWell 15 [.ref 420, .int (nI d)] (hp I L w1 w2 t) (some (.int (bI (lwF (I 421) d)))) (hp I L w1 w2 t) := by
  refine SpE_of ok_X12_leansWell rfl rfl ?_
  show AW S m_X12_leansWell 15 _ _ 0 0 0 [some (.ref 420), some (.int (nI d))] [] (hp I L w1 w2 t)
  refine a_l0 rfl rfl rfl ?_
  refine a_l1 rfl rfl rfl ?_
  refine a_s rfl rfl ?_
  refine a_eV1 rfl lX12_63 mo_X12_of (sp_X12_of (d := d) (k := 4) (by omega) (by decide)) rfl rfl rfl ⟨12, _, rfl, rfl, rfl⟩ rfl ?_
  refine a_s rfl rfl ?_
  refine a_ic_eq rfl (fun c7 => ?_) (fun c7 => ?_)
  · refine a_s rfl rfl ?_
    refine a_goto rfl ?_
    refine a_zret rfl rfl rfl ⟨by first | (simp_all [lwF, bI, bI_0]; done) | (have z := nI_clamp (show e < 2 ^ 31 by omega); simp_all [lwF, bI, bI_0]), rfl⟩
  · refine a_l0 rfl rfl rfl ?_
    refine a_l0 rfl rfl rfl ?_
    refine a_l1 rfl rfl rfl ?_
    refine a_s rfl rfl ?_
    refine a_eV1 rfl lX12_63 mo_X12_of (sp_X12_of (d := d) (k := 4) (by omega) (by decide)) rfl rfl rfl ⟨12, _, rfl, rfl, rfl⟩ rfl ?_
    obtain ⟨e, he, he2⟩ := (hl d hd).resolve_left c7
    refine a_top he2 ?_
    refine a_eV1 rfl lX12_246 mo_X12_isDone (sp_X12_isDone (d := e) (by omega)) rfl rfl rfl ⟨12, _, rfl, rfl, rfl⟩ rfl ?_
    refine a_if_eq rfl (fun c20 => ?_) (fun c20 => ?_)
    · refine a_s rfl rfl ?_
      refine a_zret rfl rfl rfl ⟨by first | (simp_all [lwF, bI, bI_0]; done) | (have z := nI_clamp (show e < 2 ^ 31 by omega); simp_all [lwF, bI, bI_0]), rfl⟩
    · refine a_s rfl rfl ?_
      refine a_goto rfl ?_
      refine a_zret rfl rfl rfl ⟨by first | (simp_all [lwF, bI, bI_0]; done) | (have z := nI_clamp (show e < 2 ^ 31 by omega); simp_all [lwF, bI, bI_0]), rfl⟩
theorem sp_X12_isReady {S : aS} {I : Nat → Nat → Int32} {L : Nat → Nat → Int64} {w1 w2 t : Nat} {nd d : Nat} (hn : nd ≤ 12) (hd : d < nd) (hl : LeW nd (I 421)) : SpE S m_X12_isReady 16 [.ref 420, .int (nI d)] (hp I L w1 w2 t) (some (.int (bI (decide (vd (I 421) 5 d = 0) && lwF (I 421) d)))) (hp I L w1 w2 t) := by
  refine SpE_of ok_X12_isReady rfl rfl ?_
  show AW S m_X12_isReady 16 _ _ 0 0 0 [some (.ref 420), some (.int (nI d))] [] (hp I L w1 w2 t)
  refine a_l0 rfl rfl rfl ?_
  refine a_l1 rfl rfl rfl ?_
  refine a_eV1 rfl lX12_135 mo_X12_isWaiting (sp_X12_isWaiting (d := d) (by omega)) rfl rfl rfl ⟨12, _, rfl, rfl, rfl⟩ rfl ?_
  refine a_if_eq rfl (fun c5 => ?_) (fun c5 => ?_)
  · refine a_s rfl rfl ?_
    refine a_zret rfl rfl rfl ⟨by simp_all [bI, bI_0], rfl⟩
  · refine a_l0 rfl rfl rfl ?_
    refine a_l1 rfl rfl rfl ?_
    refine a_eV1 rfl lX12_249 mo_X12_leansWell (sp_X12_leansWell hn hd hl) rfl rfl rfl ⟨12, _, rfl, rfl, rfl⟩ rfl ?_
    refine a_if_eq rfl (fun c13 => ?_) (fun c13 => ?_)
    · refine a_s rfl rfl ?_
      refine a_zret rfl rfl rfl ⟨by simp_all [bI, bI_0], rfl⟩
    · refine a_s rfl rfl ?_
      refine a_goto rfl ?_
      refine a_zret rfl rfl rfl ⟨by simp_all [bI, bI_0], rfl⟩
theorem sp_X12_goesAhead {S : aS} {I : Nat → Nat → Int32} {L : Nat → Nat → Int64} {w1 w2 t : Nat} {a b : Nat} (ha : a < 12) (hb : b < 12) : SpE S m_X12_goesAhead 14 [.ref 420, .int (nI a), .int (nI b)] (hp I L w1 w2 t) (some (.int (bI (decide (vd (I 421) 2 a < vd (I 421) 2 b ∨ (vd (I 421) 2 a = vd (I 421) 2 b ∧ nI a < nI b)))))) (hp I L w1 w2 t) := by
  refine SpE_of ok_X12_goesAhead rfl rfl ?_
  show AW S m_X12_goesAhead 14 _ _ 0 0 0 [some (.ref 420), some (.int (nI a)), some (.int (nI b))] [] (hp I L w1 w2 t)
  refine a_l0 rfl rfl rfl ?_
  refine a_l1 rfl rfl rfl ?_
  refine a_s rfl rfl ?_
  refine a_eV1 rfl lX12_63 mo_X12_of (sp_X12_of (d := a) (k := 2) ha (by decide)) rfl rfl rfl ⟨12, _, rfl, rfl, rfl⟩ rfl ?_
  refine a_l0 rfl rfl rfl ?_
  refine a_l2 rfl rfl rfl ?_
  refine a_s rfl rfl ?_
  refine a_eV1 rfl lX12_63 mo_X12_of (sp_X12_of (d := b) (k := 2) hb (by decide)) rfl rfl rfl ⟨12, _, rfl, rfl, rfl⟩ rfl ?_
  refine a_ic_lt rfl (fun c12 => ?_) (fun c12 => ?_)
  · refine a_s rfl rfl ?_
    refine a_goto rfl ?_
    refine a_zret rfl rfl rfl ⟨by simp_all [bI, le_nl, -Int32.not_lt, -Int32.not_le], rfl⟩
  · refine a_l0 rfl rfl rfl ?_
    refine a_l1 rfl rfl rfl ?_
    refine a_s rfl rfl ?_
    refine a_eV1 rfl lX12_63 mo_X12_of (sp_X12_of (d := a) (k := 2) ha (by decide)) rfl rfl rfl ⟨12, _, rfl, rfl, rfl⟩ rfl ?_
    refine a_l0 rfl rfl rfl ?_
    refine a_l2 rfl rfl rfl ?_
    refine a_s rfl rfl ?_
    refine a_eV1 rfl lX12_63 mo_X12_of (sp_X12_of (d := b) (k := 2) hb (by decide)) rfl rfl rfl ⟨12, _, rfl, rfl, rfl⟩ rfl ?_
    refine a_ic_ne rfl (fun c27 => ?_) (fun c27 => ?_)
    · refine a_s rfl rfl ?_
      refine a_zret rfl rfl rfl ⟨by simp_all [bI, le_nl, -Int32.not_lt, -Int32.not_le], rfl⟩
    · refine a_l1 rfl rfl rfl ?_
      refine a_l2 rfl rfl rfl ?_
      refine a_ic_ge rfl (fun c32 => ?_) (fun c32 => ?_)
      · refine a_s rfl rfl ?_
        refine a_zret rfl rfl rfl ⟨by simp_all [bI, le_nl, -Int32.not_lt, -Int32.not_le], rfl⟩
      · refine a_s rfl rfl ?_
        refine a_goto rfl ?_
        refine a_zret rfl rfl rfl ⟨by simp_all [bI, le_nl, -Int32.not_lt, -Int32.not_le], rfl⟩
end
section
/-! ===== the reference: over all duties ===== -/
def readyR (W : Nat → Int32) (d : Nat) : Bool := decide (vd W 5 d = 0) && lwF W d
def passR (nd : Nat) (W : Nat → Int32) (d : Nat) : Int32 := if vd W 5 d = 0 then W 7 * nI (cntF nd (fun e => decide (vd W 5 e = 0 ∧ vd W 2 e ≤ vd W 2 d))) else 0
def canR (nd : Nat) (W : Nat → Int32) (d : Nat) : Bool := readyR W d && decide (vd W 1 d ≤ passR nd W d)
def whereR (nd : Nat) (W : Nat → Int32) (d : Nat) (hour : Int32) : Int32 := if vd W 5 d = 0 then (if 0 ≤ hour / W 7 - placeF nd (vd W 5) (vd W 2) (nI d) then (if hour / W 7 - placeF nd (vd W 5) (vd W 2) (nI d) < 16 then hour / W 7 - placeF nd (vd W 5) (vd W 2) (nI d) else 16) else -1) else -1
def daysR (h f : Int32) : Int32 := if h = 0 then 0 else if f = 0 then 1000 else (h + f - 1) / f
def waitR (nd : Nat) (W : Nat → Int32) (p : Int32) : Int32 := ownF nd (vd W 0) p &&& inS nd (vd W 5) 0
def loadR (nd : Nat) (W : Nat → Int32) (p : Int32) : Int32 := sumF (vd W 1) (waitR nd W p) nd
theorem bI_1 (b : Bool) : bI b = 1 ↔ b = true := by cases b <;> simp [bI]
set_option maxRecDepth 100000
theorem sp_X12_ofState {S : aS} {I : Nat → Nat → Int32} {L : Nat → Nat → Int64} {w1 w2 t : Nat} {nd : Nat} (hn : nd ≤ 12) (hd : I 421 1 = nI nd) {w : Int32} : SpE S m_X12_ofState 14 [.ref 420, .int w] (hp I L w1 w2 t) (some (.int (inS nd (vd (I 421) 5) w))) (hp I L w1 w2 t) := by
  refine SpE_of ok_X12_ofState rfl rfl ?_
  show AW S m_X12_ofState 14 _ _ 0 0 0 [some (.ref 420), some (.int w), none, none] [] (hp I L w1 w2 t)
  refine a_s rfl rfl ?_
  refine a_s2 rfl rfl rfl rfl rfl rfl ?_
  refine a_s rfl rfl ?_
  refine a_s3 rfl rfl rfl rfl rfl rfl ?_
  refine a_forE (n := nd) (fun j => [some (.ref 420), some (.int w), some (.int (bs j (fun d => decide (vd (I 421) 5 d = w)))), some (.int (nI j))]) (fun j => hp I L w1 w2 t) (by simp [lsub, nI_0, bs, sumF, cntF]) (rfl) ?_ (fun j hj ih4 => ?_)
  · refine a_l3 rfl rfl rfl ?_
    refine a_l0 rfl rfl rfl ?_
    refine a_eV1 rfl lX12_74 mo_X12_duties (sp_X12_duties) rfl rfl rfl ⟨12, _, rfl, rfl, rfl⟩ rfl ?_
    refine a_top hd ?_
    refine a_ic_ge rfl (fun c9 => ?_) (fun c => absurd (Int32.le_refl _) c)
    refine a_l2 rfl rfl rfl ?_
    refine a_iret rfl rfl ⟨rfl, rfl⟩
  · refine a_l3 rfl rfl rfl ?_
    refine a_l0 rfl rfl rfl ?_
    refine a_eV1 rfl lX12_74 mo_X12_duties (sp_X12_duties) rfl rfl rfl ⟨12, _, rfl, rfl, rfl⟩ rfl ?_
    refine a_top hd ?_
    refine a_ic_ge rfl (fun c => absurd c (nI_ge hj (by omega))) (fun c9 => ?_)
    refine a_l2 rfl rfl rfl ?_
    refine a_l0 rfl rfl rfl ?_
    refine a_l3 rfl rfl rfl ?_
    refine a_s rfl rfl ?_
    refine a_eV1 rfl lX12_63 mo_X12_of (sp_X12_of (d := j) (k := 5) (by omega) (by decide)) rfl rfl rfl ⟨12, _, rfl, rfl, rfl⟩ rfl ?_
    refine a_l1 rfl rfl rfl ?_
    refine a_ic_ne rfl (fun c20 => ?_) (fun c20 => ?_)
    · refine a_s rfl rfl ?_
      refine a_s rfl rfl ?_
      refine a_s2 rfl rfl rfl rfl rfl rfl ?_
      refine a_i3 rfl rfl rfl ?_
      refine a_goto rfl ?_
      exact a_back ih4 (by simp_all [lsub, nI_1, bs, cntF, sumF, bI_0, bI, bit_lt (show j < 31 by omega)]) rfl
    · refine a_s rfl rfl ?_
      refine a_l3 rfl rfl rfl ?_
      refine a_s rfl rfl ?_
      refine a_goto rfl ?_
      refine a_s rfl rfl ?_
      refine a_s2 rfl rfl rfl rfl rfl rfl ?_
      refine a_i3 rfl rfl rfl ?_
      refine a_goto rfl ?_
      exact a_back ih4 (by simp_all [lsub, nI_1, bs, cntF, sumF, bI_0, bI, bit_lt (show j < 31 by omega)]) rfl
theorem sp_X12_ownedBy {S : aS} {I : Nat → Nat → Int32} {L : Nat → Nat → Int64} {w1 w2 t : Nat} {nd : Nat} (hn : nd ≤ 12) (hd : I 421 1 = nI nd) {w : Int32} : SpE S m_X12_ownedBy 14 [.ref 420, .int w] (hp I L w1 w2 t) (some (.int (ownF nd (vd (I 421) 0) w))) (hp I L w1 w2 t) := by
  refine SpE_of ok_X12_ownedBy rfl rfl ?_
  show AW S m_X12_ownedBy 14 _ _ 0 0 0 [some (.ref 420), some (.int w), none, none] [] (hp I L w1 w2 t)
  refine a_s rfl rfl ?_
  refine a_s2 rfl rfl rfl rfl rfl rfl ?_
  refine a_s rfl rfl ?_
  refine a_s3 rfl rfl rfl rfl rfl rfl ?_
  refine a_forE (n := nd) (fun j => [some (.ref 420), some (.int w), some (.int (bs j (fun d => decide (vd (I 421) 0 d = w)))), some (.int (nI j))]) (fun j => hp I L w1 w2 t) (by simp [lsub, nI_0, bs, sumF, cntF]) (rfl) ?_ (fun j hj ih4 => ?_)
  · refine a_l3 rfl rfl rfl ?_
    refine a_l0 rfl rfl rfl ?_
    refine a_eV1 rfl lX12_74 mo_X12_duties (sp_X12_duties) rfl rfl rfl ⟨12, _, rfl, rfl, rfl⟩ rfl ?_
    refine a_top hd ?_
    refine a_ic_ge rfl (fun c9 => ?_) (fun c => absurd (Int32.le_refl _) c)
    refine a_l2 rfl rfl rfl ?_
    refine a_iret rfl rfl ⟨rfl, rfl⟩
  · refine a_l3 rfl rfl rfl ?_
    refine a_l0 rfl rfl rfl ?_
    refine a_eV1 rfl lX12_74 mo_X12_duties (sp_X12_duties) rfl rfl rfl ⟨12, _, rfl, rfl, rfl⟩ rfl ?_
    refine a_top hd ?_
    refine a_ic_ge rfl (fun c => absurd c (nI_ge hj (by omega))) (fun c9 => ?_)
    refine a_l2 rfl rfl rfl ?_
    refine a_l0 rfl rfl rfl ?_
    refine a_l3 rfl rfl rfl ?_
    refine a_s rfl rfl ?_
    refine a_eV1 rfl lX12_63 mo_X12_of (sp_X12_of (d := j) (k := 0) (by omega) (by decide)) rfl rfl rfl ⟨12, _, rfl, rfl, rfl⟩ rfl ?_
    refine a_l1 rfl rfl rfl ?_
    refine a_ic_ne rfl (fun c20 => ?_) (fun c20 => ?_)
    · refine a_s rfl rfl ?_
      refine a_s rfl rfl ?_
      refine a_s2 rfl rfl rfl rfl rfl rfl ?_
      refine a_i3 rfl rfl rfl ?_
      refine a_goto rfl ?_
      exact a_back ih4 (by simp_all [lsub, nI_1, bs, cntF, sumF, bI_0, bI, bit_lt (show j < 31 by omega)]) rfl
    · refine a_s rfl rfl ?_
      refine a_l3 rfl rfl rfl ?_
      refine a_s rfl rfl ?_
      refine a_goto rfl ?_
      refine a_s rfl rfl ?_
      refine a_s2 rfl rfl rfl rfl rfl rfl ?_
      refine a_i3 rfl rfl rfl ?_
      refine a_goto rfl ?_
      exact a_back ih4 (by simp_all [lsub, nI_1, bs, cntF, sumF, bI_0, bI, bit_lt (show j < 31 by omega)]) rfl
theorem sp_X12_olderOnes {S : aS} {I : Nat → Nat → Int32} {L : Nat → Nat → Int64} {w1 w2 t : Nat} {nd : Nat} (hn : nd ≤ 12) (hd : I 421 1 = nI nd) {w : Int32} : SpE S m_X12_olderOnes 15 [.ref 420, .int w] (hp I L w1 w2 t) (some (.int (oldF nd (vd (I 421) 5) (vd (I 421) 2) w))) (hp I L w1 w2 t) := by
  refine SpE_of ok_X12_olderOnes rfl rfl ?_
  show AW S m_X12_olderOnes 15 _ _ 0 0 0 [some (.ref 420), some (.int w), none, none] [] (hp I L w1 w2 t)
  refine a_s rfl rfl ?_
  refine a_s2 rfl rfl rfl rfl rfl rfl ?_
  refine a_s rfl rfl ?_
  refine a_s3 rfl rfl rfl rfl rfl rfl ?_
  refine a_forE (n := nd) (fun j => [some (.ref 420), some (.int w), some (.int (bs j (fun d => decide (vd (I 421) 5 d = 0 ∧ w < vd (I 421) 2 d)))), some (.int (nI j))]) (fun j => hp I L w1 w2 t) (by simp [lsub, nI_0, bs, sumF, cntF]) (rfl) ?_ (fun j hj ih4 => ?_)
  · refine a_l3 rfl rfl rfl ?_
    refine a_l0 rfl rfl rfl ?_
    refine a_eV1 rfl lX12_74 mo_X12_duties (sp_X12_duties) rfl rfl rfl ⟨12, _, rfl, rfl, rfl⟩ rfl ?_
    refine a_top hd ?_
    refine a_ic_ge rfl (fun c9 => ?_) (fun c => absurd (Int32.le_refl _) c)
    refine a_l2 rfl rfl rfl ?_
    refine a_iret rfl rfl ⟨rfl, rfl⟩
  · refine a_l3 rfl rfl rfl ?_
    refine a_l0 rfl rfl rfl ?_
    refine a_eV1 rfl lX12_74 mo_X12_duties (sp_X12_duties) rfl rfl rfl ⟨12, _, rfl, rfl, rfl⟩ rfl ?_
    refine a_top hd ?_
    refine a_ic_ge rfl (fun c => absurd c (nI_ge hj (by omega))) (fun c9 => ?_)
    refine a_l2 rfl rfl rfl ?_
    refine a_l0 rfl rfl rfl ?_
    refine a_l3 rfl rfl rfl ?_
    refine a_eV1 rfl lX12_135 mo_X12_isWaiting (sp_X12_isWaiting (d := j) (by omega)) rfl rfl rfl ⟨12, _, rfl, rfl, rfl⟩ rfl ?_
    refine a_if_eq rfl (fun c18 => ?_) (fun c18 => ?_)
    · refine a_s rfl rfl ?_
      refine a_s rfl rfl ?_
      refine a_s2 rfl rfl rfl rfl rfl rfl ?_
      refine a_i3 rfl rfl rfl ?_
      refine a_goto rfl ?_
      exact a_back ih4 (by simp_all [lsub, nI_1, bs, cntF, sumF, bI_0, bI, bit_lt (show j < 31 by omega), le_nl, -Int32.not_lt, -Int32.not_le]) rfl
    · refine a_l0 rfl rfl rfl ?_
      refine a_l3 rfl rfl rfl ?_
      refine a_s rfl rfl ?_
      refine a_eV1 rfl lX12_63 mo_X12_of (sp_X12_of (d := j) (k := 2) (by omega) (by decide)) rfl rfl rfl ⟨12, _, rfl, rfl, rfl⟩ rfl ?_
      refine a_l1 rfl rfl rfl ?_
      refine a_ic_le rfl (fun c28 => ?_) (fun c28 => ?_)
      · refine a_s rfl rfl ?_
        refine a_s rfl rfl ?_
        refine a_s2 rfl rfl rfl rfl rfl rfl ?_
        refine a_i3 rfl rfl rfl ?_
        refine a_goto rfl ?_
        exact a_back ih4 (by simp_all [lsub, nI_1, bs, cntF, sumF, bI_0, bI, bit_lt (show j < 31 by omega), le_nl, -Int32.not_lt, -Int32.not_le]) rfl
      · refine a_s rfl rfl ?_
        refine a_l3 rfl rfl rfl ?_
        refine a_s rfl rfl ?_
        refine a_goto rfl ?_
        refine a_s rfl rfl ?_
        refine a_s2 rfl rfl rfl rfl rfl rfl ?_
        refine a_i3 rfl rfl rfl ?_
        refine a_goto rfl ?_
        exact a_back ih4 (by simp_all [lsub, nI_1, bs, cntF, sumF, bI_0, bI, bit_lt (show j < 31 by omega), le_nl, -Int32.not_lt, -Int32.not_le]) rfl
theorem sp_X12_readyOnes {S : aS} {I : Nat → Nat → Int32} {L : Nat → Nat → Int64} {w1 w2 t : Nat} {nd : Nat} (hn : nd ≤ 12) (hd : I 421 1 = nI nd) (hl : LeW nd (I 421)) : SpE S m_X12_readyOnes 17 [.ref 420] (hp I L w1 w2 t) (some (.int (bs nd (readyR (I 421))))) (hp I L w1 w2 t) := by
  refine SpE_of ok_X12_readyOnes rfl rfl ?_
  show AW S m_X12_readyOnes 17 _ _ 0 0 0 [some (.ref 420), none, none] [] (hp I L w1 w2 t)
  refine a_s rfl rfl ?_
  refine a_s1 rfl rfl rfl rfl rfl rfl ?_
  refine a_s rfl rfl ?_
  refine a_s2 rfl rfl rfl rfl rfl rfl ?_
  refine a_forE (n := nd) (fun j => [some (.ref 420), some (.int (bs j (readyR (I 421)))), some (.int (nI j))]) (fun j => hp I L w1 w2 t) (by simp [lsub, nI_0, bs, sumF, cntF]) (rfl) ?_ (fun j hj ih4 => ?_)
  · refine a_l2 rfl rfl rfl ?_
    refine a_l0 rfl rfl rfl ?_
    refine a_eV1 rfl lX12_74 mo_X12_duties (sp_X12_duties) rfl rfl rfl ⟨12, _, rfl, rfl, rfl⟩ rfl ?_
    refine a_top hd ?_
    refine a_ic_ge rfl (fun c9 => ?_) (fun c => absurd (Int32.le_refl _) c)
    refine a_l1 rfl rfl rfl ?_
    refine a_iret rfl rfl ⟨rfl, rfl⟩
  · refine a_l2 rfl rfl rfl ?_
    refine a_l0 rfl rfl rfl ?_
    refine a_eV1 rfl lX12_74 mo_X12_duties (sp_X12_duties) rfl rfl rfl ⟨12, _, rfl, rfl, rfl⟩ rfl ?_
    refine a_top hd ?_
    refine a_ic_ge rfl (fun c => absurd c (nI_ge hj (by omega))) (fun c9 => ?_)
    refine a_l1 rfl rfl rfl ?_
    refine a_l0 rfl rfl rfl ?_
    refine a_l2 rfl rfl rfl ?_
    refine a_eV1 rfl lX12_273 mo_X12_isReady (sp_X12_isReady hn hj hl) rfl rfl rfl ⟨12, _, rfl, rfl, rfl⟩ rfl ?_
    refine a_if_eq rfl (fun c18 => ?_) (fun c18 => ?_)
    · refine a_s rfl rfl ?_
      refine a_s rfl rfl ?_
      refine a_s1 rfl rfl rfl rfl rfl rfl ?_
      refine a_i2 rfl rfl rfl ?_
      refine a_goto rfl ?_
      exact a_back ih4 (by simp_all [lsub, nI_1, bs, cntF, sumF, bI_0, bI, bit_lt (show j < 31 by omega), readyR]) rfl
    · refine a_s rfl rfl ?_
      refine a_l2 rfl rfl rfl ?_
      refine a_s rfl rfl ?_
      refine a_goto rfl ?_
      refine a_s rfl rfl ?_
      refine a_s1 rfl rfl rfl rfl rfl rfl ?_
      refine a_i2 rfl rfl rfl ?_
      refine a_goto rfl ?_
      exact a_back ih4 (by simp_all [lsub, nI_1, bs, cntF, sumF, bI_0, bI, bit_lt (show j < 31 by omega), readyR]) rfl
theorem sp_X12_hoursOf {S : aS} {I : Nat → Nat → Int32} {L : Nat → Nat → Int64} {w1 w2 t : Nat} {nd : Nat} (hn : nd ≤ 12) (hd : I 421 1 = nI nd) {s : Int32} : SpE S m_X12_hoursOf 14 [.ref 420, .int s] (hp I L w1 w2 t) (some (.int (sumF (vd (I 421) 1) s nd))) (hp I L w1 w2 t) := by
  refine SpE_of ok_X12_hoursOf rfl rfl ?_
  show AW S m_X12_hoursOf 14 _ _ 0 0 0 [some (.ref 420), some (.int s), none, none] [] (hp I L w1 w2 t)
  refine a_s rfl rfl ?_
  refine a_s2 rfl rfl rfl rfl rfl rfl ?_
  refine a_s rfl rfl ?_
  refine a_s3 rfl rfl rfl rfl rfl rfl ?_
  refine a_forE (n := nd) (fun j => [some (.ref 420), some (.int s), some (.int (sumF (vd (I 421) 1) s j)), some (.int (nI j))]) (fun j => hp I L w1 w2 t) (by simp [lsub, nI_0, bs, sumF, cntF]) (rfl) ?_ (fun j hj ih4 => ?_)
  · refine a_l3 rfl rfl rfl ?_
    refine a_l0 rfl rfl rfl ?_
    refine a_eV1 rfl lX12_74 mo_X12_duties (sp_X12_duties) rfl rfl rfl ⟨12, _, rfl, rfl, rfl⟩ rfl ?_
    refine a_top hd ?_
    refine a_ic_ge rfl (fun c9 => ?_) (fun c => absurd (Int32.le_refl _) c)
    refine a_l2 rfl rfl rfl ?_
    refine a_iret rfl rfl ⟨rfl, rfl⟩
  · refine a_l3 rfl rfl rfl ?_
    refine a_l0 rfl rfl rfl ?_
    refine a_eV1 rfl lX12_74 mo_X12_duties (sp_X12_duties) rfl rfl rfl ⟨12, _, rfl, rfl, rfl⟩ rfl ?_
    refine a_top hd ?_
    refine a_ic_ge rfl (fun c => absurd c (nI_ge hj (by omega))) (fun c9 => ?_)
    refine a_l2 rfl rfl rfl ?_
    refine a_l1 rfl rfl rfl ?_
    refine a_l3 rfl rfl rfl ?_
    refine a_eS1 rfl lX12_304 mo_X12_has (sp_X12_has) rfl rfl rfl rfl ?_
    refine a_if_eq rfl (fun c18 => ?_) (fun c18 => ?_)
    · refine a_s rfl rfl ?_
      refine a_s rfl rfl ?_
      refine a_s2 rfl rfl rfl rfl rfl rfl ?_
      refine a_i3 rfl rfl rfl ?_
      refine a_goto rfl ?_
      exact a_back ih4 (by simp_all [lsub, nI_1, bs, cntF, sumF, bI_0, bI, bit_lt (show j < 31 by omega), Int32.add_zero]) rfl
    · refine a_l0 rfl rfl rfl ?_
      refine a_l3 rfl rfl rfl ?_
      refine a_s rfl rfl ?_
      refine a_eV1 rfl lX12_63 mo_X12_of (sp_X12_of (d := j) (k := 1) (by omega) (by decide)) rfl rfl rfl ⟨12, _, rfl, rfl, rfl⟩ rfl ?_
      refine a_goto rfl ?_
      refine a_s rfl rfl ?_
      refine a_s2 rfl rfl rfl rfl rfl rfl ?_
      refine a_i3 rfl rfl rfl ?_
      refine a_goto rfl ?_
      exact a_back ih4 (by simp_all [lsub, nI_1, bs, cntF, sumF, bI_0, bI, bit_lt (show j < 31 by omega), Int32.add_zero]) rfl
theorem sp_X12_waitingOf {S : aS} {I : Nat → Nat → Int32} {L : Nat → Nat → Int64} {w1 w2 t : Nat} {nd : Nat} (hn : nd ≤ 12) (hd : I 421 1 = nI nd) {w : Int32} : SpE S m_X12_waitingOf 15 [.ref 420, .int w] (hp I L w1 w2 t) (some (.int (waitR nd (I 421) w))) (hp I L w1 w2 t) := by
  refine SpE_of ok_X12_waitingOf rfl rfl ?_
  show AW S m_X12_waitingOf 15 _ _ 0 0 0 [some (.ref 420), some (.int w)] [] (hp I L w1 w2 t)
  refine a_l0 rfl rfl rfl ?_
  refine a_l1 rfl rfl rfl ?_
  refine a_eV1 rfl lX12_321 mo_X12_ownedBy (sp_X12_ownedBy hn hd) rfl rfl rfl ⟨12, _, rfl, rfl, rfl⟩ rfl ?_
  refine a_l0 rfl rfl rfl ?_
  refine a_s rfl rfl ?_
  refine a_eV1 rfl lX12_324 mo_X12_ofState (sp_X12_ofState hn hd) rfl rfl rfl ⟨12, _, rfl, rfl, rfl⟩ rfl ?_
  refine a_s rfl rfl ?_
  refine a_iret rfl rfl ⟨rfl, rfl⟩
theorem sp_X12_loadOf {S : aS} {I : Nat → Nat → Int32} {L : Nat → Nat → Int64} {w1 w2 t : Nat} {nd : Nat} (hn : nd ≤ 12) (hd : I 421 1 = nI nd) {w : Int32} : SpE S m_X12_loadOf 16 [.ref 420, .int w] (hp I L w1 w2 t) (some (.int (loadR nd (I 421) w))) (hp I L w1 w2 t) := by
  refine SpE_of ok_X12_loadOf rfl rfl ?_
  show AW S m_X12_loadOf 16 _ _ 0 0 0 [some (.ref 420), some (.int w)] [] (hp I L w1 w2 t)
  refine a_l0 rfl rfl rfl ?_
  refine a_l0 rfl rfl rfl ?_
  refine a_l1 rfl rfl rfl ?_
  refine a_eV1 rfl lX12_327 mo_X12_waitingOf (sp_X12_waitingOf hn hd) rfl rfl rfl ⟨12, _, rfl, rfl, rfl⟩ rfl ?_
  refine a_eV1 rfl lX12_330 mo_X12_hoursOf (sp_X12_hoursOf hn hd) rfl rfl rfl ⟨12, _, rfl, rfl, rfl⟩ rfl ?_
  refine a_iret rfl rfl ⟨rfl, rfl⟩
theorem sp_X12_daysFor {S : aS} {h : aH} {a b : Int32} : SpE S m_X12_daysFor 12 [.int a, .int b] (h) (some (.int (daysR a b))) (h) := by
  refine SpE_of ok_X12_daysFor rfl rfl ?_
  show AW S m_X12_daysFor 12 _ _ 0 0 0 [some (.int a), some (.int b)] [] (h)
  refine a_l0 rfl rfl rfl ?_
  refine a_if_ne rfl (fun c1 => ?_) (fun c1 => ?_)
  · refine a_l1 rfl rfl rfl ?_
    refine a_if_ne rfl (fun c7 => ?_) (fun c7 => ?_)
    · refine a_l0 rfl rfl rfl ?_
      refine a_l1 rfl rfl rfl ?_
      refine a_s rfl rfl ?_
      refine a_s rfl rfl ?_
      refine a_s rfl rfl ?_
      refine a_l1 rfl rfl rfl ?_
      refine a_idiv rfl (c7) ?_
      refine a_iret rfl rfl ⟨by simp [daysR, *], rfl⟩
    · refine a_s rfl rfl ?_
      refine a_goto rfl ?_
      refine a_iret rfl rfl ⟨by simp [daysR, *], rfl⟩
  · refine a_s rfl rfl ?_
    refine a_iret rfl rfl ⟨by simp [daysR, *], rfl⟩
theorem sp_X12_needsOf {S : aS} {I : Nat → Nat → Int32} {L : Nat → Nat → Int64} {w1 w2 t : Nat} {nd : Nat} (hn : nd ≤ 12) (hd : I 421 1 = nI nd) {p : Nat} (hp6 : p < 6) : SpE S m_X12_needsOf 17 [.ref 420, .int (nI p)] (hp I L w1 w2 t) (some (.int (daysR (loadR nd (I 421) (nI p)) (vp (I 421) 1 p)))) (hp I L w1 w2 t) := by
  refine SpE_of ok_X12_needsOf rfl rfl ?_
  show AW S m_X12_needsOf 17 _ _ 0 0 0 [some (.ref 420), some (.int (nI p))] [] (hp I L w1 w2 t)
  refine a_l0 rfl rfl rfl ?_
  refine a_l1 rfl rfl rfl ?_
  refine a_eV1 rfl lX12_333 mo_X12_loadOf (sp_X12_loadOf hn hd) rfl rfl rfl ⟨12, _, rfl, rfl, rfl⟩ rfl ?_
  refine a_l0 rfl rfl rfl ?_
  refine a_l1 rfl rfl rfl ?_
  refine a_s rfl rfl ?_
  refine a_eV1 rfl lX12_252 mo_X12_ofPerson (sp_X12_ofPerson (d := p) (k := 1) hp6 (by decide)) rfl rfl rfl ⟨12, _, rfl, rfl, rfl⟩ rfl ?_
  refine a_eS1 rfl lX12_336 mo_X12_daysFor (sp_X12_daysFor) rfl rfl rfl rfl ?_
  refine a_iret rfl rfl ⟨rfl, rfl⟩
theorem sp_X12_placeOf {S : aS} {I : Nat → Nat → Int32} {L : Nat → Nat → Int64} {w1 w2 t : Nat} {nd : Nat} (hn : nd ≤ 12) (hd : I 421 1 = nI nd) {i : Nat} (hi : i < nd) : SpE S m_X12_placeOf 15 [.ref 420, .int (nI i)] (hp I L w1 w2 t) (some (.int (placeF nd (vd (I 421) 5) (vd (I 421) 2) (nI i)))) (hp I L w1 w2 t) := by
  refine SpE_of ok_X12_placeOf rfl rfl ?_
  show AW S m_X12_placeOf 15 _ _ 0 0 0 [some (.ref 420), some (.int (nI i)), none, none] [] (hp I L w1 w2 t)
  refine a_l0 rfl rfl rfl ?_
  refine a_l1 rfl rfl rfl ?_
  refine a_eV1 rfl lX12_135 mo_X12_isWaiting (sp_X12_isWaiting (d := i) (by omega)) rfl rfl rfl ⟨12, _, rfl, rfl, rfl⟩ rfl ?_
  refine a_if_ne rfl (fun c5 => ?_) (fun c5 => ?_)
  · refine a_s rfl rfl ?_
    refine a_s2 rfl rfl rfl rfl rfl rfl ?_
    refine a_s rfl rfl ?_
    refine a_s3 rfl rfl rfl rfl rfl rfl ?_
    refine a_forE (n := nd) (fun j => [some (.ref 420), some (.int (nI i)), some (.int (nI (cntF j (fun d => decide (vd (I 421) 5 d = 0 ∧ (vd (I 421) 2 d < vd (I 421) 2 i ∨ (vd (I 421) 2 d = vd (I 421) 2 i ∧ nI d < nI i))))))), some (.int (nI j))]) (fun j => hp I L w1 w2 t) (by simp [lsub, nI_0, bs, sumF, cntF]) (rfl) ?_ (fun j hj ih14 => ?_)
    · refine a_l3 rfl rfl rfl ?_
      refine a_l0 rfl rfl rfl ?_
      refine a_eV1 rfl lX12_74 mo_X12_duties (sp_X12_duties) rfl rfl rfl ⟨12, _, rfl, rfl, rfl⟩ rfl ?_
      refine a_top hd ?_
      refine a_ic_ge rfl (fun c19 => ?_) (fun c => absurd (Int32.le_refl _) c)
      refine a_l2 rfl rfl rfl ?_
      refine a_iret rfl rfl ⟨by have z := atF_nI (f := vd (I 421) 2) (n := 12) (i := i) (by omega) (by decide); simp_all [placeF, placeC, waitF_nI, bI, bI_0], rfl⟩
    · refine a_l3 rfl rfl rfl ?_
      refine a_l0 rfl rfl rfl ?_
      refine a_eV1 rfl lX12_74 mo_X12_duties (sp_X12_duties) rfl rfl rfl ⟨12, _, rfl, rfl, rfl⟩ rfl ?_
      refine a_top hd ?_
      refine a_ic_ge rfl (fun c => absurd c (nI_ge hj (by omega))) (fun c19 => ?_)
      refine a_l2 rfl rfl rfl ?_
      refine a_l3 rfl rfl rfl ?_
      refine a_l1 rfl rfl rfl ?_
      refine a_ic_eq rfl (fun c25 => ?_) (fun c25 => ?_)
      · refine a_s rfl rfl ?_
        refine a_s rfl rfl ?_
        refine a_s2 rfl rfl rfl rfl rfl rfl ?_
        refine a_i3 rfl rfl rfl ?_
        refine a_goto rfl ?_
        obtain rfl := nI_inj (a := j) (b := i) (by omega) (by omega) c25
        exact a_back ih14 (by rw [cntF_f (n := j) (P := (fun d => decide (vd (I 421) 5 d = 0 ∧ (vd (I 421) 2 d < vd (I 421) 2 j ∨ (vd (I 421) 2 d = vd (I 421) 2 j ∧ nI d < nI j))))) (decide_eq_false fun z => z.2.elim (fun q => Int32.lt_irrefl q) (fun q => Int32.lt_irrefl q.2))]; simp [lsub, nI_1, Int32.add_zero]) rfl
      · refine a_l0 rfl rfl rfl ?_
        refine a_l3 rfl rfl rfl ?_
        refine a_eV1 rfl lX12_135 mo_X12_isWaiting (sp_X12_isWaiting (d := j) (by omega)) rfl rfl rfl ⟨12, _, rfl, rfl, rfl⟩ rfl ?_
        refine a_if_eq rfl (fun c33 => ?_) (fun c33 => ?_)
        · refine a_s rfl rfl ?_
          refine a_s rfl rfl ?_
          refine a_s2 rfl rfl rfl rfl rfl rfl ?_
          refine a_i3 rfl rfl rfl ?_
          refine a_goto rfl ?_
          exact a_back ih14 (by rw [cntF_f (n := j) (P := (fun d => decide (vd (I 421) 5 d = 0 ∧ (vd (I 421) 2 d < vd (I 421) 2 i ∨ (vd (I 421) 2 d = vd (I 421) 2 i ∧ nI d < nI i))))) (decide_eq_false fun z => of_decide_eq_false (bI_f c33) z.1)]; simp [lsub, nI_1, Int32.add_zero]) rfl
        · refine a_l0 rfl rfl rfl ?_
          refine a_l3 rfl rfl rfl ?_
          refine a_l1 rfl rfl rfl ?_
          refine a_eV1 rfl lX12_270 mo_X12_goesAhead (sp_X12_goesAhead (a := j) (b := i) (by omega) (by omega)) rfl rfl rfl ⟨12, _, rfl, rfl, rfl⟩ rfl ?_
          refine a_if_eq rfl (fun c42 => ?_) (fun c42 => ?_)
          · refine a_s rfl rfl ?_
            refine a_s rfl rfl ?_
            refine a_s2 rfl rfl rfl rfl rfl rfl ?_
            refine a_i3 rfl rfl rfl ?_
            refine a_goto rfl ?_
            exact a_back ih14 (by rw [cntF_f (n := j) (P := (fun d => decide (vd (I 421) 5 d = 0 ∧ (vd (I 421) 2 d < vd (I 421) 2 i ∨ (vd (I 421) 2 d = vd (I 421) 2 i ∧ nI d < nI i))))) (decide_eq_false fun z => of_decide_eq_false (bI_f c42) z.2)]; simp [lsub, nI_1, Int32.add_zero]) rfl
          · refine a_s rfl rfl ?_
            refine a_goto rfl ?_
            refine a_s rfl rfl ?_
            refine a_s2 rfl rfl rfl rfl rfl rfl ?_
            refine a_i3 rfl rfl rfl ?_
            refine a_goto rfl ?_
            exact a_back ih14 (by rw [cntF_t (n := j) (P := (fun d => decide (vd (I 421) 5 d = 0 ∧ (vd (I 421) 2 d < vd (I 421) 2 i ∨ (vd (I 421) 2 d = vd (I 421) 2 i ∧ nI d < nI i))))) (decide_eq_true ⟨of_decide_eq_true (bI_t c33), of_decide_eq_true (bI_t c42)⟩)]; simp [lsub, nI_1]) rfl
  · refine a_s rfl rfl ?_
    refine a_iret rfl rfl ⟨by simp_all [placeF, waitF_nI, bI, bI_0], rfl⟩
theorem sp_X12_passesBy {S : aS} {I : Nat → Nat → Int32} {L : Nat → Nat → Int64} {w1 w2 t : Nat} {nd : Nat} (hn : nd ≤ 12) (hd : I 421 1 = nI nd) {i : Nat} (hi : i < nd) : SpE S m_X12_passesBy 15 [.ref 420, .int (nI i)] (hp I L w1 w2 t) (some (.int (passR nd (I 421) i))) (hp I L w1 w2 t) := by
  refine SpE_of ok_X12_passesBy rfl rfl ?_
  show AW S m_X12_passesBy 15 _ _ 0 0 0 [some (.ref 420), some (.int (nI i)), none, none] [] (hp I L w1 w2 t)
  refine a_l0 rfl rfl rfl ?_
  refine a_l1 rfl rfl rfl ?_
  refine a_eV1 rfl lX12_135 mo_X12_isWaiting (sp_X12_isWaiting (d := i) (by omega)) rfl rfl rfl ⟨12, _, rfl, rfl, rfl⟩ rfl ?_
  refine a_if_ne rfl (fun c5 => ?_) (fun c5 => ?_)
  · refine a_s rfl rfl ?_
    refine a_s2 rfl rfl rfl rfl rfl rfl ?_
    refine a_s rfl rfl ?_
    refine a_s3 rfl rfl rfl rfl rfl rfl ?_
    refine a_forE (n := nd) (fun j => [some (.ref 420), some (.int (nI i)), some (.int (nI (cntF j (fun e => decide (vd (I 421) 5 e = 0 ∧ vd (I 421) 2 e ≤ vd (I 421) 2 i))))), some (.int (nI j))]) (fun j => hp I L w1 w2 t) (by simp [lsub, nI_0, bs, sumF, cntF]) (rfl) ?_ (fun j hj ih14 => ?_)
    · refine a_l3 rfl rfl rfl ?_
      refine a_l0 rfl rfl rfl ?_
      refine a_eV1 rfl lX12_74 mo_X12_duties (sp_X12_duties) rfl rfl rfl ⟨12, _, rfl, rfl, rfl⟩ rfl ?_
      refine a_top hd ?_
      refine a_ic_ge rfl (fun c19 => ?_) (fun c => absurd (Int32.le_refl _) c)
      refine a_l0 rfl rfl rfl ?_
      refine a_getq rfl gfX12_13_12 rfl (rfl) ?_
      refine a_s rfl rfl ?_
      refine a_ialdv (v := I 421 7) rfl (n := 2033) rfl ⟨by decide, by decide⟩ rfl ?_
      refine a_l2 rfl rfl rfl ?_
      refine a_s rfl rfl ?_
      refine a_iret rfl rfl ⟨by simp_all [passR, bI, bI_0], rfl⟩
    · refine a_l3 rfl rfl rfl ?_
      refine a_l0 rfl rfl rfl ?_
      refine a_eV1 rfl lX12_74 mo_X12_duties (sp_X12_duties) rfl rfl rfl ⟨12, _, rfl, rfl, rfl⟩ rfl ?_
      refine a_top hd ?_
      refine a_ic_ge rfl (fun c => absurd c (nI_ge hj (by omega))) (fun c19 => ?_)
      refine a_l2 rfl rfl rfl ?_
      refine a_l0 rfl rfl rfl ?_
      refine a_l3 rfl rfl rfl ?_
      refine a_eV1 rfl lX12_135 mo_X12_isWaiting (sp_X12_isWaiting (d := j) (by omega)) rfl rfl rfl ⟨12, _, rfl, rfl, rfl⟩ rfl ?_
      refine a_if_eq rfl (fun c28 => ?_) (fun c28 => ?_)
      · refine a_s rfl rfl ?_
        refine a_s rfl rfl ?_
        refine a_s2 rfl rfl rfl rfl rfl rfl ?_
        refine a_i3 rfl rfl rfl ?_
        refine a_goto rfl ?_
        exact a_back ih14 (by simp_all [lsub, nI_1, bs, cntF, sumF, bI_0, bI, bit_lt (show j < 31 by omega), le_nl, -Int32.not_lt, -Int32.not_le, Int32.add_zero]) rfl
      · refine a_l0 rfl rfl rfl ?_
        refine a_l3 rfl rfl rfl ?_
        refine a_s rfl rfl ?_
        refine a_eV1 rfl lX12_63 mo_X12_of (sp_X12_of (d := j) (k := 2) (by omega) (by decide)) rfl rfl rfl ⟨12, _, rfl, rfl, rfl⟩ rfl ?_
        refine a_l0 rfl rfl rfl ?_
        refine a_l1 rfl rfl rfl ?_
        refine a_s rfl rfl ?_
        refine a_eV1 rfl lX12_63 mo_X12_of (sp_X12_of (d := i) (k := 2) (by omega) (by decide)) rfl rfl rfl ⟨12, _, rfl, rfl, rfl⟩ rfl ?_
        refine a_ic_gt rfl (fun c43 => ?_) (fun c43 => ?_)
        · refine a_s rfl rfl ?_
          refine a_s rfl rfl ?_
          refine a_s2 rfl rfl rfl rfl rfl rfl ?_
          refine a_i3 rfl rfl rfl ?_
          refine a_goto rfl ?_
          exact a_back ih14 (by simp_all [lsub, nI_1, bs, cntF, sumF, bI_0, bI, bit_lt (show j < 31 by omega), le_nl, -Int32.not_lt, -Int32.not_le, Int32.add_zero]) rfl
        · refine a_s rfl rfl ?_
          refine a_goto rfl ?_
          refine a_s rfl rfl ?_
          refine a_s2 rfl rfl rfl rfl rfl rfl ?_
          refine a_i3 rfl rfl rfl ?_
          refine a_goto rfl ?_
          exact a_back ih14 (by simp_all [lsub, nI_1, bs, cntF, sumF, bI_0, bI, bit_lt (show j < 31 by omega), le_nl, -Int32.not_lt, -Int32.not_le, Int32.add_zero]) rfl
  · refine a_s rfl rfl ?_
    refine a_iret rfl rfl ⟨by simp_all [passR, bI, bI_0], rfl⟩
theorem sp_X12_canBeCalled {S : aS} {I : Nat → Nat → Int32} {L : Nat → Nat → Int64} {w1 w2 t : Nat} {nd : Nat} (hn : nd ≤ 12) (hd : I 421 1 = nI nd) (hl : LeW nd (I 421)) {i : Nat} (hi : i < nd) : SpE S m_X12_canBeCalled 17 [.ref 420, .int (nI i)] (hp I L w1 w2 t) (some (.int (bI (canR nd (I 421) i)))) (hp I L w1 w2 t) := by
  refine SpE_of ok_X12_canBeCalled rfl rfl ?_
  show AW S m_X12_canBeCalled 17 _ _ 0 0 0 [some (.ref 420), some (.int (nI i))] [] (hp I L w1 w2 t)
  refine a_l0 rfl rfl rfl ?_
  refine a_l1 rfl rfl rfl ?_
  refine a_eV1 rfl lX12_273 mo_X12_isReady (sp_X12_isReady hn hi hl) rfl rfl rfl ⟨12, _, rfl, rfl, rfl⟩ rfl ?_
  refine a_if_eq rfl (fun c5 => ?_) (fun c5 => ?_)
  · refine a_s rfl rfl ?_
    refine a_zret rfl rfl rfl ⟨by simp_all [canR, readyR, bI, bI_0, le_nl, -Int32.not_lt, -Int32.not_le], rfl⟩
  · refine a_l0 rfl rfl rfl ?_
    refine a_l1 rfl rfl rfl ?_
    refine a_s rfl rfl ?_
    refine a_eV1 rfl lX12_63 mo_X12_of (sp_X12_of (d := i) (k := 1) (by omega) (by decide)) rfl rfl rfl ⟨12, _, rfl, rfl, rfl⟩ rfl ?_
    refine a_l0 rfl rfl rfl ?_
    refine a_l1 rfl rfl rfl ?_
    refine a_eV1 rfl lX12_276 mo_X12_passesBy (sp_X12_passesBy hn hd hi) rfl rfl rfl ⟨12, _, rfl, rfl, rfl⟩ rfl ?_
    refine a_ic_gt rfl (fun c19 => ?_) (fun c19 => ?_)
    · refine a_s rfl rfl ?_
      refine a_zret rfl rfl rfl ⟨by simp_all [canR, readyR, bI, bI_0, le_nl, -Int32.not_lt, -Int32.not_le], rfl⟩
    · refine a_s rfl rfl ?_
      refine a_goto rfl ?_
      refine a_zret rfl rfl rfl ⟨by simp_all [canR, readyR, bI, bI_0, le_nl, -Int32.not_lt, -Int32.not_le], rfl⟩
theorem sp_X12_canOnes {S : aS} {I : Nat → Nat → Int32} {L : Nat → Nat → Int64} {w1 w2 t : Nat} {nd : Nat} (hn : nd ≤ 12) (hd : I 421 1 = nI nd) (hl : LeW nd (I 421)) : SpE S m_X12_canOnes 18 [.ref 420] (hp I L w1 w2 t) (some (.int (bs nd (canR nd (I 421))))) (hp I L w1 w2 t) := by
  refine SpE_of ok_X12_canOnes rfl rfl ?_
  show AW S m_X12_canOnes 18 _ _ 0 0 0 [some (.ref 420), none, none] [] (hp I L w1 w2 t)
  refine a_s rfl rfl ?_
  refine a_s1 rfl rfl rfl rfl rfl rfl ?_
  refine a_s rfl rfl ?_
  refine a_s2 rfl rfl rfl rfl rfl rfl ?_
  refine a_forE (n := nd) (fun j => [some (.ref 420), some (.int (bs j (canR nd (I 421)))), some (.int (nI j))]) (fun j => hp I L w1 w2 t) (by simp [lsub, nI_0, bs, sumF, cntF]) (rfl) ?_ (fun j hj ih4 => ?_)
  · refine a_l2 rfl rfl rfl ?_
    refine a_l0 rfl rfl rfl ?_
    refine a_eV1 rfl lX12_74 mo_X12_duties (sp_X12_duties) rfl rfl rfl ⟨12, _, rfl, rfl, rfl⟩ rfl ?_
    refine a_top hd ?_
    refine a_ic_ge rfl (fun c9 => ?_) (fun c => absurd (Int32.le_refl _) c)
    refine a_l1 rfl rfl rfl ?_
    refine a_iret rfl rfl ⟨rfl, rfl⟩
  · refine a_l2 rfl rfl rfl ?_
    refine a_l0 rfl rfl rfl ?_
    refine a_eV1 rfl lX12_74 mo_X12_duties (sp_X12_duties) rfl rfl rfl ⟨12, _, rfl, rfl, rfl⟩ rfl ?_
    refine a_top hd ?_
    refine a_ic_ge rfl (fun c => absurd c (nI_ge hj (by omega))) (fun c9 => ?_)
    refine a_l1 rfl rfl rfl ?_
    refine a_l0 rfl rfl rfl ?_
    refine a_l2 rfl rfl rfl ?_
    refine a_eV1 rfl lX12_280 mo_X12_canBeCalled (sp_X12_canBeCalled hn hd hl hj) rfl rfl rfl ⟨12, _, rfl, rfl, rfl⟩ rfl ?_
    refine a_if_eq rfl (fun c18 => ?_) (fun c18 => ?_)
    · refine a_s rfl rfl ?_
      refine a_s rfl rfl ?_
      refine a_s1 rfl rfl rfl rfl rfl rfl ?_
      refine a_i2 rfl rfl rfl ?_
      refine a_goto rfl ?_
      exact a_back ih4 (by simp_all [lsub, nI_1, bs, cntF, sumF, bI_0, bI, bit_lt (show j < 31 by omega)]) rfl
    · refine a_s rfl rfl ?_
      refine a_l2 rfl rfl rfl ?_
      refine a_s rfl rfl ?_
      refine a_goto rfl ?_
      refine a_s rfl rfl ?_
      refine a_s1 rfl rfl rfl rfl rfl rfl ?_
      refine a_i2 rfl rfl rfl ?_
      refine a_goto rfl ?_
      exact a_back ih4 (by simp_all [lsub, nI_1, bs, cntF, sumF, bI_0, bI, bit_lt (show j < 31 by omega)]) rfl
theorem sp_X12_whereAt {S : aS} {I : Nat → Nat → Int32} {L : Nat → Nat → Int64} {w1 w2 t : Nat} {nd : Nat} (hn : nd ≤ 12) (hd : I 421 1 = nI nd) {i : Nat} (hi : i < nd) (h7 : ¬ I 421 7 = 0) {x : Int32} : SpE S m_X12_whereAt 16 [.ref 420, .int (nI i), .int x] (hp I L w1 w2 t) (some (.int (whereR nd (I 421) i x))) (hp I L w1 w2 t) := by
  refine SpE_of ok_X12_whereAt rfl rfl ?_
  show AW S m_X12_whereAt 16 _ _ 0 0 0 [some (.ref 420), some (.int (nI i)), some (.int x), none] [] (hp I L w1 w2 t)
  refine a_l0 rfl rfl rfl ?_
  refine a_l1 rfl rfl rfl ?_
  refine a_eV1 rfl lX12_135 mo_X12_isWaiting (sp_X12_isWaiting (d := i) (by omega)) rfl rfl rfl ⟨12, _, rfl, rfl, rfl⟩ rfl ?_
  refine a_if_ne rfl (fun c5 => ?_) (fun c5 => ?_)
  · refine a_l2 rfl rfl rfl ?_
    refine a_l0 rfl rfl rfl ?_
    refine a_getq rfl gfX12_13_12 rfl (rfl) ?_
    refine a_s rfl rfl ?_
    refine a_ialdv (v := I 421 7) rfl (n := 2033) rfl ⟨by decide, by decide⟩ rfl ?_
    refine a_idiv rfl (h7) ?_
    refine a_l0 rfl rfl rfl ?_
    refine a_l1 rfl rfl rfl ?_
    refine a_eV1 rfl lX12_283 mo_X12_placeOf (sp_X12_placeOf hn hd hi) rfl rfl rfl ⟨12, _, rfl, rfl, rfl⟩ rfl ?_
    refine a_s rfl rfl ?_
    refine a_s3 rfl rfl rfl rfl rfl rfl ?_
    refine a_l3 rfl rfl rfl ?_
    refine a_if_ge rfl (fun c27 => ?_) (fun c27 => ?_)
    · refine a_s rfl rfl ?_
      refine a_l3 rfl rfl rfl ?_
      refine a_min rfl lX12_295 mj_min rfl rfl ?_
      refine a_iret rfl rfl ⟨by simp_all [whereR, bI, bI_0, le_nl, -Int32.not_lt, -Int32.not_le], rfl⟩
    · refine a_s rfl rfl ?_
      refine a_goto rfl ?_
      refine a_iret rfl rfl ⟨by simp_all [whereR, bI, bI_0, le_nl, -Int32.not_lt, -Int32.not_le], rfl⟩
  · refine a_s rfl rfl ?_
    refine a_iret rfl rfl ⟨by simp_all [whereR, bI, bI_0], rfl⟩
end
