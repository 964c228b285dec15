/-! ===== calls of methods whose end is known; loops ===== -/
def SpE (S : aS) (C : aM) (d : Nat) (args : List Value) (h : aH) (r : Option Value) (h' : aH) : Prop := Sp S C d 0 0 args h (fun v h'' => v = r ∧ h'' = h') (fun _ _ => False)
section B3
variable {S : aS} {C C' : aM} {d d' : Nat} {Q Q' : Option Value → aH → Prop} {X X' : String → aH → Prop} {k1 k2 j1 j2 pc np tgt n : Nat} {w : Int32} {ls ls' : List (Option Value)} {st st' st0 : List Value} {h h' : aH} {ins : Instr} {As : List Value} {v : Value}
theorem a_eV1 {idx : Nat} {q : Nat} (hC : look C pc = some (.invokevirtual idx, np, tgt, w)) (hl : LK C.1.cls idx C') (hM : MOv C' n) (hs : SpE S C' d' (.ref q :: As) h (some v) h') (hn : As.length = n) (h0 : st0 = As.reverse ++ .ref q :: st) (ho : cOk d d' 0 0 k1 k2 st = true) (hq : rcv h q C'.1.cls) (hh : C.2.2.2.2.1 = []) (kk : AW S C d Q X k1 k2 np ls (v :: st) h') : AW S C d Q X k1 k2 pc ls st0 h := by
  refine a_callV hC hl hM hs hn h0 ho hq hh (fun v h' hv => ?_) (fun E h' hx => False.elim hx)
  obtain ⟨rfl, rfl⟩ := hv
  exact kk
theorem a_eV0 {idx : Nat} {q : Nat} (hC : look C pc = some (.invokevirtual idx, np, tgt, w)) (hl : LK C.1.cls idx C') (hM : MOv C' n) (hs : SpE S C' d' (.ref q :: As) h none h') (hn : As.length = n) (h0 : st0 = As.reverse ++ .ref q :: st) (ho : cOk d d' 0 0 k1 k2 st = true) (hq : rcv h q C'.1.cls) (hh : C.2.2.2.2.1 = []) (kk : AW S C d Q X k1 k2 np ls st h') : AW S C d Q X k1 k2 pc ls st0 h := by
  refine a_callV hC hl hM hs hn h0 ho hq hh (fun v h' hv => ?_) (fun E h' hx => False.elim hx)
  obtain ⟨rfl, rfl⟩ := hv
  exact kk
theorem a_eN1 {idx : Nat} {q : Nat} (hC : look C pc = some (.invokevirtual idx, np, tgt, w)) (hl : LKn C.1.cls idx C') (hM : MOv C' n) (hs : SpE S C' d' (.ref q :: As) h (some v) h') (hn : As.length = n) (h0 : st0 = As.reverse ++ .ref q :: st) (ho : cOk d d' 0 0 k1 k2 st = true) (hq : rcv h q C'.1.cls) (hh : C.2.2.2.2.1 = []) (kk : AW S C d Q X k1 k2 np ls (v :: st) h') : AW S C d Q X k1 k2 pc ls st0 h := by
  refine a_callN hC hl hM hs hn h0 ho hq hh (fun v h' hv => ?_) (fun E h' hx => False.elim hx)
  obtain ⟨rfl, rfl⟩ := hv
  exact kk
theorem a_eN0 {idx : Nat} {q : Nat} (hC : look C pc = some (.invokevirtual idx, np, tgt, w)) (hl : LKn C.1.cls idx C') (hM : MOv C' n) (hs : SpE S C' d' (.ref q :: As) h none h') (hn : As.length = n) (h0 : st0 = As.reverse ++ .ref q :: st) (ho : cOk d d' 0 0 k1 k2 st = true) (hq : rcv h q C'.1.cls) (hh : C.2.2.2.2.1 = []) (kk : AW S C d Q X k1 k2 np ls st h') : AW S C d Q X k1 k2 pc ls st0 h := by
  refine a_callN hC hl hM hs hn h0 ho hq hh (fun v h' hv => ?_) (fun E h' hx => False.elim hx)
  obtain ⟨rfl, rfl⟩ := hv
  exact kk
theorem a_eS1 {idx : Nat} (hC : look C pc = some (.invokestatic idx, np, tgt, w)) (hl : LK C.1.cls idx C') (hM : MOs C' n) (hs : SpE S C' d' As h (some v) h') (hn : As.length = n) (h0 : st0 = As.reverse ++ st) (ho : cOk d d' 0 0 k1 k2 st = true) (hh : C.2.2.2.2.1 = []) (kk : AW S C d Q X k1 k2 np ls (v :: st) h') : AW S C d Q X k1 k2 pc ls st0 h := by
  refine a_callS hC hl hM hs hn h0 ho hh (fun v h' hv => ?_) (fun E h' hx => False.elim hx)
  obtain ⟨rfl, rfl⟩ := hv
  exact kk
theorem a_eS0 {idx : Nat} (hC : look C pc = some (.invokestatic idx, np, tgt, w)) (hl : LK C.1.cls idx C') (hM : MOs C' n) (hs : SpE S C' d' As h none h') (hn : As.length = n) (h0 : st0 = As.reverse ++ st) (ho : cOk d d' 0 0 k1 k2 st = true) (hh : C.2.2.2.2.1 = []) (kk : AW S C d Q X k1 k2 np ls st h') : AW S C d Q X k1 k2 pc ls st0 h := by
  refine a_callS hC hl hM hs hn h0 ho hh (fun v h' hv => ?_) (fun E h' hx => False.elim hx)
  obtain ⟨rfl, rfl⟩ := hv
  exact kk
theorem a_eSN1 {idx : Nat} (hC : look C pc = some (.invokestatic idx, np, tgt, w)) (hl : LKn C.1.cls idx C') (hM : MOs C' n) (hs : SpE S C' d' As h (some v) h') (hn : As.length = n) (h0 : st0 = As.reverse ++ st) (ho : cOk d d' 0 0 k1 k2 st = true) (hh : C.2.2.2.2.1 = []) (kk : AW S C d Q X k1 k2 np ls (v :: st) h') : AW S C d Q X k1 k2 pc ls st0 h := by
  refine a_callSN hC hl hM hs hn h0 ho hh (fun v h' hv => ?_) (fun E h' hx => False.elim hx)
  obtain ⟨rfl, rfl⟩ := hv
  exact kk
theorem a_eSN0 {idx : Nat} (hC : look C pc = some (.invokestatic idx, np, tgt, w)) (hl : LKn C.1.cls idx C') (hM : MOs C' n) (hs : SpE S C' d' As h none h') (hn : As.length = n) (h0 : st0 = As.reverse ++ st) (ho : cOk d d' 0 0 k1 k2 st = true) (hh : C.2.2.2.2.1 = []) (kk : AW S C d Q X k1 k2 np ls st h') : AW S C d Q X k1 k2 pc ls st0 h := by
  refine a_callSN hC hl hM hs hn h0 ho hh (fun v h' hv => ?_) (fun E h' hx => False.elim hx)
  obtain ⟨rfl, rfl⟩ := hv
  exact kk
theorem a_eI1 {idx : Nat} {q : Nat} (hC : look C pc = some (.invokespecial idx, np, tgt, w)) (hl : LK C.1.cls idx C') (hM : MOi C' n) (hs : SpE S C' d' (.ref q :: As) h (some v) h') (hn : As.length = n) (h0 : st0 = As.reverse ++ .ref q :: st) (ho : cOk d d' 0 0 k1 k2 st = true) (hh : C.2.2.2.2.1 = []) (kk : AW S C d Q X k1 k2 np ls (v :: st) h') : AW S C d Q X k1 k2 pc ls st0 h := by
  refine a_callI hC hl hM hs hn h0 ho hh (fun v h' hv => ?_) (fun E h' hx => False.elim hx)
  obtain ⟨rfl, rfl⟩ := hv
  exact kk
theorem a_eI0 {idx : Nat} {q : Nat} (hC : look C pc = some (.invokespecial idx, np, tgt, w)) (hl : LK C.1.cls idx C') (hM : MOi C' n) (hs : SpE S C' d' (.ref q :: As) h none h') (hn : As.length = n) (h0 : st0 = As.reverse ++ .ref q :: st) (ho : cOk d d' 0 0 k1 k2 st = true) (hh : C.2.2.2.2.1 = []) (kk : AW S C d Q X k1 k2 np ls st h') : AW S C d Q X k1 k2 pc ls st0 h := by
  refine a_callI hC hl hM hs hn h0 ho hh (fun v h' hv => ?_) (fun E h' hx => False.elim hx)
  obtain ⟨rfl, rfl⟩ := hv
  exact kk
theorem a_eIN1 {idx : Nat} {q : Nat} (hC : look C pc = some (.invokespecial idx, np, tgt, w)) (hl : LKn C.1.cls idx C') (hM : MOi C' n) (hs : SpE S C' d' (.ref q :: As) h (some v) h') (hn : As.length = n) (h0 : st0 = As.reverse ++ .ref q :: st) (ho : cOk d d' 0 0 k1 k2 st = true) (hh : C.2.2.2.2.1 = []) (kk : AW S C d Q X k1 k2 np ls (v :: st) h') : AW S C d Q X k1 k2 pc ls st0 h := by
  refine a_callIN hC hl hM hs hn h0 ho hh (fun v h' hv => ?_) (fun E h' hx => False.elim hx)
  obtain ⟨rfl, rfl⟩ := hv
  exact kk
theorem a_eIN0 {idx : Nat} {q : Nat} (hC : look C pc = some (.invokespecial idx, np, tgt, w)) (hl : LKn C.1.cls idx C') (hM : MOi C' n) (hs : SpE S C' d' (.ref q :: As) h none h') (hn : As.length = n) (h0 : st0 = As.reverse ++ .ref q :: st) (ho : cOk d d' 0 0 k1 k2 st = true) (hh : C.2.2.2.2.1 = []) (kk : AW S C d Q X k1 k2 np ls st h') : AW S C d Q X k1 k2 pc ls st0 h := by
  refine a_callIN hC hl hM hs hn h0 ho hh (fun v h' hv => ?_) (fun E h' hx => False.elim hx)
  obtain ⟨rfl, rfl⟩ := hv
  exact kk
theorem a_eK1 {idx : Nat} {q : Nat} (hC : look C pc = some (.invokevirtual idx, np, tgt, w)) (hl : LK C.1.cls idx C') (hM : MOv C' n) (hs : SpE S C' d' (.ref q :: As) h (some v) h') (hn : As.length = n) (h0 : st0 = As.reverse ++ .ref q :: st) (ho : cOk d d' 0 0 k1 k2 st = true) (hq : (q, C'.1.cls) ∈ S.2.1) (hh : C.2.2.2.2.1 = []) (kk : AW S C d Q X k1 k2 np ls (v :: st) h') : AW S C d Q X k1 k2 pc ls st0 h := by
  refine a_callK hC hl hM hs hn h0 ho hq hh (fun v h' hv => ?_) (fun E h' hx => False.elim hx)
  obtain ⟨rfl, rfl⟩ := hv
  exact kk
theorem a_eK0 {idx : Nat} {q : Nat} (hC : look C pc = some (.invokevirtual idx, np, tgt, w)) (hl : LK C.1.cls idx C') (hM : MOv C' n) (hs : SpE S C' d' (.ref q :: As) h none h') (hn : As.length = n) (h0 : st0 = As.reverse ++ .ref q :: st) (ho : cOk d d' 0 0 k1 k2 st = true) (hq : (q, C'.1.cls) ∈ S.2.1) (hh : C.2.2.2.2.1 = []) (kk : AW S C d Q X k1 k2 np ls st h') : AW S C d Q X k1 k2 pc ls st0 h := by
  refine a_callK hC hl hM hs hn h0 ho hq hh (fun v h' hv => ?_) (fun E h' hx => False.elim hx)
  obtain ⟨rfl, rfl⟩ := hv
  exact kk
/-- a counting loop -/
theorem a_for {n : Nat} (f : Nat → List (Option Value)) (g : Nat → aH) (hn : AW S C d Q X k1 k2 pc (f n) st (g n)) (hs : ∀ j, j < n → AW S C d Q X k1 k2 pc (f (j + 1)) st (g (j + 1)) → AW S C d Q X k1 k2 pc (f j) st (g j)) : AW S C d Q X k1 k2 pc (f 0) st (g 0) := by
  have key : ∀ i, i ≤ n → AW S C d Q X k1 k2 pc (f (n - i)) st (g (n - i)) := by
    intro i
    induction i with
    | zero => intro _; exact hn
    | succ i ih =>
      intro hi
      refine hs (n - (i + 1)) (by omega) ?_
      rw [show n - (i + 1) + 1 = n - i by omega]
      exact ih (by omega)
  have := key n (Nat.le_refl n)
  rw [Nat.sub_self] at this
  exact this
theorem a_eq (e1 : ls = ls') (e2 : h = h') (k : AW S C d Q X k1 k2 pc ls' st h') : AW S C d Q X k1 k2 pc ls st h := by
  rw [e1, e2]
  exact k
theorem SpE_of {args : List Value} {r : Option Value} (hO : okM C = true) (hc : args.all (fun v => v.category == 1) = true) (hn : Nat.ble args.length C.2.2.1 = true)
    (k : AW S C d (fun v h'' => v = r ∧ h'' = h') (fun _ _ => False) 0 0 0 (entL args C.2.2.1) [] h) : SpE S C d args h r h' := Sp_of hO hc hn k
theorem SpE.cast {args : List Value} {r r' : Option Value} {h'' : aH} (k : SpE S C d args h r h') (e1 : r = r') (e2 : h' = h'') : SpE S C d args h r' h'' := by
  rw [← e1, ← e2]
  exact k

/-- it throws, and this is known -/
def SpX (S : aS) (C : aM) (d : Nat) (args : List Value) (h : aH) (E : String) (h' : aH) : Prop := Sp S C d 1 6 args h (fun _ _ => False) (fun E' h'' => E' = E ∧ h'' = h')
theorem SpX_of {args : List Value} {E : String} (hO : okM C = true) (hc : args.all (fun v => v.category == 1) = true) (hn : Nat.ble args.length C.2.2.1 = true)
    (k : AW S C d (fun _ _ => False) (fun E' h'' => E' = E ∧ h'' = h') 1 6 0 (entL args C.2.2.1) [] h) : SpX S C d args h E h' := Sp_of hO hc hn k
theorem a_back (k : AW S C d Q X k1 k2 pc ls' st h') (hs : lsub ls' ls) (e : h = h') : AW S C d Q X k1 k2 pc ls st h := by
  rw [e]
  exact a_less k hs
theorem a_forE {n : Nat} (f : Nat → List (Option Value)) (g : Nat → aH) (e1 : lsub (f 0) ls) (e2 : h = g 0) (hn : AW S C d Q X k1 k2 pc (f n) st (g n)) (hs : ∀ j, j < n → AW S C d Q X k1 k2 pc (f (j + 1)) st (g (j + 1)) → AW S C d Q X k1 k2 pc (f j) st (g j)) : AW S C d Q X k1 k2 pc ls st h := by
  rw [e2]
  exact a_less (a_for f g hn hs) e1
/-- a loop that may be left early: by an invariant of its own -/
theorem a_loop {n : Nat} (f : Nat → List (Option Value)) (g : Nat → aH) (P : Nat → Prop) (e1 : lsub (f 0) ls) (e2 : h = g 0) (h0 : P 0) (hs : ∀ j, j ≤ n → P j → (j < n → P (j + 1) → AW S C d Q X k1 k2 pc (f (j + 1)) st (g (j + 1))) → AW S C d Q X k1 k2 pc (f j) st (g j)) : AW S C d Q X k1 k2 pc ls st h := by
  have key : ∀ i, i ≤ n → P (n - i) → AW S C d Q X k1 k2 pc (f (n - i)) st (g (n - i)) := by
    intro i
    induction i with
    | zero => intro _ hp; exact hs n (Nat.le_refl n) hp (fun z => absurd z (by omega))
    | succ i ih =>
      intro hi hp
      refine hs (n - (i + 1)) (by omega) hp (fun _ hp' => ?_)
      rw [show n - (i + 1) + 1 = n - i by omega] at hp' ⊢
      exact ih (by omega) hp'
  rw [e2]
  have := key n (Nat.le_refl n)
  rw [Nat.sub_self] at this
  exact a_less (this h0) e1
theorem a_xV {idx : Nat} {q : Nat} {E : String} (hC : look C pc = some (.invokevirtual idx, np, tgt, w)) (hl : LK C.1.cls idx C') (hM : MOv C' n) (hs : SpX S C' d' (.ref q :: As) h E h') (hn : As.length = n) (h0 : st0 = As.reverse ++ .ref q :: st) (ho : cOk d d' 1 6 k1 k2 st = true) (hq : rcv h q C'.1.cls) (hh : C.2.2.2.2.1 = []) (hX : X E h') : AW S C d Q X k1 k2 pc ls st0 h := by
  refine a_callV hC hl hM hs hn h0 ho hq hh (fun v h' hv => False.elim hv) (fun E h' hx => ?_)
  obtain ⟨rfl, rfl⟩ := hx
  exact hX
theorem a_xN {idx : Nat} {q : Nat} {E : String} (hC : look C pc = some (.invokevirtual idx, np, tgt, w)) (hl : LKn C.1.cls idx C') (hM : MOv C' n) (hs : SpX S C' d' (.ref q :: As) h E h') (hn : As.length = n) (h0 : st0 = As.reverse ++ .ref q :: st) (ho : cOk d d' 1 6 k1 k2 st = true) (hq : rcv h q C'.1.cls) (hh : C.2.2.2.2.1 = []) (hX : X E h') : AW S C d Q X k1 k2 pc ls st0 h := by
  refine a_callN hC hl hM hs hn h0 ho hq hh (fun v h' hv => False.elim hv) (fun E h' hx => ?_)
  obtain ⟨rfl, rfl⟩ := hx
  exact hX
theorem a_xS {idx : Nat} {E : String} (hC : look C pc = some (.invokestatic idx, np, tgt, w)) (hl : LK C.1.cls idx C') (hM : MOs C' n) (hs : SpX S C' d' As h E h') (hn : As.length = n) (h0 : st0 = As.reverse ++ st) (ho : cOk d d' 1 6 k1 k2 st = true) (hh : C.2.2.2.2.1 = []) (hX : X E h') : AW S C d Q X k1 k2 pc ls st0 h := by
  refine a_callS hC hl hM hs hn h0 ho hh (fun v h' hv => False.elim hv) (fun E h' hx => ?_)
  obtain ⟨rfl, rfl⟩ := hx
  exact hX
theorem a_xSN {idx : Nat} {E : String} (hC : look C pc = some (.invokestatic idx, np, tgt, w)) (hl : LKn C.1.cls idx C') (hM : MOs C' n) (hs : SpX S C' d' As h E h') (hn : As.length = n) (h0 : st0 = As.reverse ++ st) (ho : cOk d d' 1 6 k1 k2 st = true) (hh : C.2.2.2.2.1 = []) (hX : X E h') : AW S C d Q X k1 k2 pc ls st0 h := by
  refine a_callSN hC hl hM hs hn h0 ho hh (fun v h' hv => False.elim hv) (fun E h' hx => ?_)
  obtain ⟨rfl, rfl⟩ := hx
  exact hX
end B3
