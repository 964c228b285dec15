/-! ===== the rules of AW: fields by kind, arrays, answers ===== -/
theorem nar_ref {ty : FieldType} (h : isRefTy ty = true) (v : Value) (hv : v = .null ∨ ∃ a, v = .ref a) : narrow ty v = v ∧ fits ty v = true := by
  rcases hv with rfl | ⟨a, rfl⟩ <;> cases ty <;> first | (cases h; done) | exact ⟨rfl, rfl⟩
theorem mv_rv_or (G : aG) (r : Nat) : mv G (rv r) = .null ∨ ∃ a, mv G (rv r) = .ref a := by cases r <;> first | exact Or.inl rfl | exact Or.inr ⟨_, rfl⟩
section A7
variable {S : aS} {C : aM} {d : Nat} {Q : Option Value → aH → Prop} {X : String → aH → Prop} {k1 k2 pc np tgt : Nat} {w : Int32} {ls ls' : List (Option Value)} {st st' : List Value} {h : aH} {ins : Instr}
variable {K : Nat → Nat × Nat} {I : Nat → Nat → Int32} {L : Nat → Nat → Int64} {R : Nat → Nat → Nat} {t : Nat}
theorem a_puti {idx ci k p : Nat} {x : Int32} (hC : look C pc = some (.putfield idx, np, tgt, w)) (hf : LPi C.1.cls C.1.name idx ci k) (hK : K p = (1, ci)) (kk : AW S C d Q X k1 k2 np ls st (K, up2 I p k x, L, R, t)) : AW S C d Q X k1 k2 pc ls (.int x :: .ref p :: st) (K, I, L, R, t) := by
  obtain ⟨r, ⟨hf, hfin⟩, ht⟩ := hf
  refine a_put hC hf hfin hK (fun G => ?_) (fun G => ?_) (fun q hq => up2_row hq) (fun _ _ => rfl) (fun j hj => ⟨up2_ne (Or.inr hj), rfl⟩) (fun G => ?_) kk
  · rw [ht]; rfl
  · rw [ht]; rfl
  · rw [ht]; show Value.int (up2 I p k x p k) = _; rw [up2_at]; rfl
theorem a_putz {idx ci k p : Nat} {x : Int32} (hC : look C pc = some (.putfield idx, np, tgt, w)) (hf : LPz C.1.cls C.1.name idx ci k) (hx : narrow .boolean (.int x) = .int x ∧ fits .boolean (.int x) = true) (hK : K p = (1, ci)) (kk : AW S C d Q X k1 k2 np ls st (K, up2 I p k x, L, R, t)) : AW S C d Q X k1 k2 pc ls (.int x :: .ref p :: st) (K, I, L, R, t) := by
  obtain ⟨r, ⟨hf, hfin⟩, ht⟩ := hf
  refine a_put hC hf hfin hK (fun G => ?_) (fun G => ?_) (fun q hq => up2_row hq) (fun _ _ => rfl) (fun j hj => ⟨up2_ne (Or.inr hj), rfl⟩) (fun G => ?_) kk
  · rw [ht]; exact hx.1
  · rw [ht]; exact hx.2
  · rw [ht]; show Value.int (up2 I p k x p k) = _; rw [up2_at]; rfl
theorem a_putr {idx ci k p q : Nat} (hC : look C pc = some (.putfield idx, np, tgt, w)) (hf : LPr C.1.cls C.1.name idx ci k) (hK : K p = (1, ci)) (kk : AW S C d Q X k1 k2 np ls st (K, I, L, up2 R p k q, t)) : AW S C d Q X k1 k2 pc ls (rv q :: .ref p :: st) (K, I, L, R, t) := by
  obtain ⟨r, ⟨hf, hfin⟩, ht⟩ := hf
  refine a_put hC hf hfin hK (fun G => (nar_ref ht _ (mv_rv_or G q)).1) (fun G => (nar_ref ht _ (mv_rv_or G q)).2) (fun _ _ => rfl) (fun q hq => up2_row hq) (fun j hj => ⟨rfl, up2_ne (Or.inr hj)⟩) (fun G => ?_) kk
  rw [fv_ref ht, up2_at]
theorem a_putq {idx ci k p q : Nat} (hC : look C pc = some (.putfield idx, np, tgt, w)) (hf : LPr C.1.cls C.1.name idx ci k) (hK : K p = (1, ci)) (kk : AW S C d Q X k1 k2 np ls st (K, I, L, up2 R p k (q + 1), t)) : AW S C d Q X k1 k2 pc ls (.ref q :: .ref p :: st) (K, I, L, R, t) := a_putr (q := q + 1) hC hf hK kk
/-! arrays -/
theorem arrV_kn (c : ClassId) (n : Nat) (f : Nat → Value) : (arrV c n f).vm ≠ .unknown := by
  unfold arrV
  simp
theorem arrV_ks (c : ClassId) (n : Nat) (f : Nat → Value) : ∀ q, (arrV c n f).vm ≠ .statics q := by
  intro q
  unfold arrV
  simp
def inI (i : Int32) (n : Nat) : Prop := ¬ i < 0 ∧ i.toNatClampNeg < n
theorem inI_not {i : Int32} {n : Nat} (h : inI i n) : ¬ (i < 0 ∨ n ≤ i.toNatClampNeg) := by
  rintro (q | q)
  · exact h.1 q
  · have := h.2
    omega
theorem a_len {p n tt : Nat} {x : Int32} (hC : look C pc = some (.arraylength, np, tgt, w)) (hK : K p = (tt + 2, n)) (htt : Nat.blt tt 4 = true) (hx : nI n = x) (kk : AW S C d Q X k1 k2 np ls (.int x :: st) (K, I, L, R, t)) : AW S C d Q X k1 k2 pc ls (.ref p :: st) (K, I, L, R, t) := by
  intro p' l e s m args below meth c H la locs cells slots mc ms G CC hS hL hR hF h1 h2
  obtain ⟨hd, rfl, -⟩ := okd CC.2.2.2.2.2.2.2.2.2 hC rfl
  have hA := hR.ar hK
  refine W.alen CC.1 CC.2.1 hA ((hS.2.1 tt (Nat.le_of_ble_eq_true htt)).1 _ _) (n := x) ?_ rfl rfl hd ?_
  · rw [arrV_size, ← hx]
    rfl
  · exact kk p' l e s m args below meth c H la locs cells slots mc ms G CC hS hL hR hF h1 h2
theorem a_iald {p n : Nat} {i : Int32} (hC : look C pc = some (.iaload, np, tgt, w)) (hK : K p = (2, n)) (hi : inI i n) (kk : AW S C d Q X k1 k2 np ls (.int (I p i.toNatClampNeg) :: st) (K, I, L, R, t)) : AW S C d Q X k1 k2 pc ls (.int i :: .ref p :: st) (K, I, L, R, t) := by
  intro p' l e s m args below meth c H la locs cells slots mc ms G CC hS hL hR hF h1 h2
  obtain ⟨hd, rfl, -⟩ := okd CC.2.2.2.2.2.2.2.2.2 hC rfl
  have hA := hR.ar (t := 0) hK
  exact W.iald CC.1 CC.2.1 hA ((hS.2.1 0 (by decide)).1 _ _) (arrV_kn _ _ _) (by rw [arrV_size]; exact inI_not hi) (arrV_read _ _ hi.2) rfl rfl hd (kk p' l e s m args below meth c H la locs cells slots mc ms G CC hS hL hR hF h1 h2)
theorem a_bald {p n : Nat} {i : Int32} (hC : look C pc = some (.baload, np, tgt, w)) (hK : K p = (3, n)) (hi : inI i n) (kk : AW S C d Q X k1 k2 np ls (.int (I p i.toNatClampNeg) :: st) (K, I, L, R, t)) : AW S C d Q X k1 k2 pc ls (.int i :: .ref p :: st) (K, I, L, R, t) := by
  intro p' l e s m args below meth c H la locs cells slots mc ms G CC hS hL hR hF h1 h2
  obtain ⟨hd, rfl, -⟩ := okd CC.2.2.2.2.2.2.2.2.2 hC rfl
  have hA := hR.ar (t := 1) hK
  exact W.bald CC.1 CC.2.1 hA ((hS.2.1 1 (by decide)).1 _ _) (arrV_kn _ _ _) (by rw [arrV_size]; exact inI_not hi) (arrV_read _ _ hi.2) rfl rfl hd (kk p' l e s m args below meth c H la locs cells slots mc ms G CC hS hL hR hF h1 h2)
theorem a_lald {p n : Nat} {i : Int32} (hC : look C pc = some (.laload, np, tgt, w)) (hK : K p = (4, n)) (hi : inI i n) (kk : AW S C d Q X k1 k2 np ls (.long (L p i.toNatClampNeg) :: st) (K, I, L, R, t)) : AW S C d Q X k1 k2 pc ls (.int i :: .ref p :: st) (K, I, L, R, t) := by
  intro p' l e s m args below meth c H la locs cells slots mc ms G CC hS hL hR hF h1 h2
  obtain ⟨hd, rfl, -⟩ := okd CC.2.2.2.2.2.2.2.2.2 hC rfl
  have hA := hR.ar (t := 2) hK
  exact W.lald CC.1 CC.2.1 hA ((hS.2.1 2 (by decide)).1 _ _) (arrV_kn _ _ _) (by rw [arrV_size]; exact inI_not hi) (arrV_read _ _ hi.2) rfl rfl hd (kk p' l e s m args below meth c H la locs cells slots mc ms G CC hS hL hR hF h1 h2)
theorem a_aald {p n q : Nat} {i : Int32} (hC : look C pc = some (.aaload, np, tgt, w)) (hK : K p = (5, n)) (hi : inI i n) (hq : R p i.toNatClampNeg = q) (kk : AW S C d Q X k1 k2 np ls (rv q :: st) (K, I, L, R, t)) : AW S C d Q X k1 k2 pc ls (.int i :: .ref p :: st) (K, I, L, R, t) := by
  intro p' l e s m args below meth c H la locs cells slots mc ms G CC hS hL hR hF h1 h2
  obtain ⟨hd, rfl, -⟩ := okd CC.2.2.2.2.2.2.2.2.2 hC rfl
  have hA := hR.ar (t := 3) hK
  refine W.aald CC.1 CC.2.1 hA ((hS.2.1 3 (by decide)).1 _ _) rfl (arrV_kn _ _ _) (by rw [arrV_size]; exact inI_not hi) (arrV_read _ _ hi.2) rfl rfl hd ?_
  show W p' l e _ s m args below meth c H locs cells slots _ (F0 m (pc + 1) la (mv G (rv (R p i.toNatClampNeg)) :: st.map (mv G)))
  rw [hq]
  exact kk p' l e s m args below meth c H la locs cells slots mc ms G CC hS hL hR hF h1 h2
theorem updV_ev2 {G : aG} {I : Nat → Nat → Int32} {L : Nat → Nat → Int64} {R : Nat → Nat → Nat} {p k : Nat} {x : Int32} : updV (fun j => ev G I L R 2 p j) k (.int x) = fun j => ev G (up2 I p k x) L R 2 p j := by
  funext j
  by_cases h : j = k
  · subst h; simp [updV, ev, up2]
  · simp [updV, ev, up2, h]
theorem updV_ev3 {G : aG} {I : Nat → Nat → Int32} {L : Nat → Nat → Int64} {R : Nat → Nat → Nat} {p k : Nat} {x : Int32} : updV (fun j => ev G I L R 3 p j) k (.int x) = fun j => ev G (up2 I p k x) L R 3 p j := by
  funext j
  by_cases h : j = k
  · subst h; simp [updV, ev, up2]
  · simp [updV, ev, up2, h]
theorem updV_ev4 {G : aG} {I : Nat → Nat → Int32} {L : Nat → Nat → Int64} {R : Nat → Nat → Nat} {p k : Nat} {x : Int64} : updV (fun j => ev G I L R 4 p j) k (.long x) = fun j => ev G I (up2 L p k x) R 4 p j := by
  funext j
  by_cases h : j = k
  · subst h; simp [updV, ev, up2]
  · simp [updV, ev, up2, h]
theorem updV_ev5 {G : aG} {I : Nat → Nat → Int32} {L : Nat → Nat → Int64} {R : Nat → Nat → Nat} {p k q : Nat} : updV (fun j => ev G I L R 5 p j) k (mv G (rv q)) = fun j => ev G I L (up2 R p k q) 5 p j := by
  funext j
  by_cases h : j = k
  · subst h; simp [updV, ev, up2]
  · simp [updV, ev, up2, h]
theorem a_iast {p n : Nat} {i x : Int32} (hC : look C pc = some (.iastore, np, tgt, w)) (hK : K p = (2, n)) (hi : inI i n) (kk : AW S C d Q X k1 k2 np ls st (K, up2 I p i.toNatClampNeg x, L, R, t)) : AW S C d Q X k1 k2 pc ls (.int x :: .int i :: .ref p :: st) (K, I, L, R, t) := by
  intro p' l e s m args below meth c H la locs cells slots mc ms G CC hS hL hR hF h1 h2
  obtain ⟨hd, rfl, -⟩ := okd CC.2.2.2.2.2.2.2.2.2 hC rfl
  have hA := hR.ar (t := 0) hK
  have hp : 200 ≤ p := hR.2.1 p (by show (K p).1 ≠ 0; rw [hK]; simp)
  refine W.iast CC.1 CC.2.1 hA ((hS.2.1 0 (by decide)).1 _ _) (arrV_kn _ _ _) (by rw [arrV_size]; exact inI_not hi) rfl rfl hd (fun H' e1 e2 e3 => ?_)
  refine kk p' l e s m args below meth c H' la _ cells slots mc ms G CC hS hL (Rep.set hR hp (fun q hq => up2_row hq) (fun _ _ => rfl) (fun _ _ => rfl) e2 e3 ?_) (hF.put e2 e3 (aA_ad hp)) h1 h2
  show cellA G (K, up2 I p i.toNatClampNeg x, L, R, t) H' p
  unfold cellA
  dsimp only
  rw [hK]
  show H'[ad G p]? = some (arrV _ n _)
  rw [e1, arrV_store, updV_ev2]
theorem a_bast {p n : Nat} {i x : Int32} (hC : look C pc = some (.bastore, np, tgt, w)) (hK : K p = (3, n)) (hi : inI i n) (hx : x.toInt8.toInt32 = x) (kk : AW S C d Q X k1 k2 np ls st (K, up2 I p i.toNatClampNeg x, L, R, t)) : AW S C d Q X k1 k2 pc ls (.int x :: .int i :: .ref p :: st) (K, I, L, R, t) := by
  intro p' l e s m args below meth c H la locs cells slots mc ms G CC hS hL hR hF h1 h2
  obtain ⟨hd, rfl, -⟩ := okd CC.2.2.2.2.2.2.2.2.2 hC rfl
  have hA := hR.ar (t := 1) hK
  have hp : 200 ≤ p := hR.2.1 p (by show (K p).1 ≠ 0; rw [hK]; simp)
  have hnx : narrow .byte (.int x) = .int x := by show Value.int x.toInt8.toInt32 = _; rw [hx]
  refine W.bast CC.1 CC.2.1 hA ((hS.2.1 1 (by decide)).1 _ _) (arrV_kn _ _ _) (by rw [arrV_size]; exact inI_not hi) rfl rfl hd (fun H' e1 e2 e3 => ?_)
  refine kk p' l e s m args below meth c H' la _ cells slots mc ms G CC hS hL (Rep.set hR hp (fun q hq => up2_row hq) (fun _ _ => rfl) (fun _ _ => rfl) e2 e3 ?_) (hF.put e2 e3 (aA_ad hp)) h1 h2
  show cellA G (K, up2 I p i.toNatClampNeg x, L, R, t) H' p
  unfold cellA
  dsimp only
  rw [hK]
  show H'[ad G p]? = some (arrV _ n _)
  rw [e1, hnx, arrV_store, updV_ev3]
theorem a_last {p n : Nat} {i : Int32} {x : Int64} (hC : look C pc = some (.lastore, np, tgt, w)) (hK : K p = (4, n)) (hi : inI i n) (kk : AW S C d Q X k1 k2 np ls st (K, I, up2 L p i.toNatClampNeg x, R, t)) : AW S C d Q X k1 k2 pc ls (.long x :: .int i :: .ref p :: st) (K, I, L, R, t) := by
  intro p' l e s m args below meth c H la locs cells slots mc ms G CC hS hL hR hF h1 h2
  obtain ⟨hd, rfl, -⟩ := okd CC.2.2.2.2.2.2.2.2.2 hC rfl
  have hA := hR.ar (t := 2) hK
  have hp : 200 ≤ p := hR.2.1 p (by show (K p).1 ≠ 0; rw [hK]; simp)
  refine W.last CC.1 CC.2.1 hA ((hS.2.1 2 (by decide)).1 _ _) (arrV_kn _ _ _) (by rw [arrV_size]; exact inI_not hi) rfl rfl hd (fun H' e1 e2 e3 => ?_)
  refine kk p' l e s m args below meth c H' la _ cells slots mc ms G CC hS hL (Rep.set hR hp (fun _ _ => rfl) (fun q hq => up2_row hq) (fun _ _ => rfl) e2 e3 ?_) (hF.put e2 e3 (aA_ad hp)) h1 h2
  show cellA G (K, I, up2 L p i.toNatClampNeg x, R, t) H' p
  unfold cellA
  dsimp only
  rw [hK]
  show H'[ad G p]? = some (arrV _ n _)
  rw [e1, arrV_store, updV_ev4]
/-- an array of streets takes a street -/
theorem a_aast {p n q : Nat} {i : Int32} (hC : look C pc = some (.aastore, np, tgt, w)) (hK : K p = (5, n)) (hKq : K q = (1, 5)) (hi : inI i n) (kk : AW S C d Q X k1 k2 np ls st (K, I, L, up2 R p i.toNatClampNeg (q + 1), t)) : AW S C d Q X k1 k2 pc ls (.ref q :: .int i :: .ref p :: st) (K, I, L, R, t) := by
  intro p' l e s m args below meth c H la locs cells slots mc ms G CC hS hL hR hF h1 h2
  obtain ⟨hd, rfl, -⟩ := okd CC.2.2.2.2.2.2.2.2.2 hC rfl
  have hA := hR.ar (t := 3) hK
  have hp : 200 ≤ p := hR.2.1 p (by show (K p).1 ≠ 0; rw [hK]; simp)
  obtain ⟨r, hr, cell, q1, q2, q3, q4⟩ := hR.ob hKq
  obtain ⟨-, hfc, kC, hkC, -⟩ := hS.1 5 r hr
  obtain ⟨kA, comp, a1, a2, a3, a4⟩ := (hS.2.1 3 (by decide)).2
  have hcc : comp = G.1.1 5 := by
    cases hr
    exact Option.some.inj (a3.symm.trans hfc)
  subst hcc
  refine W.aast CC.1 CC.2.1 hA (arrV_ks _ _ _) (arrV_kn _ _ _) a1 a2 rfl hkC ⟨hi.1, by rw [arrV_size]; exact hi.2⟩ q1 (fun z => by rw [q3]; simp) (by rw [q2]; exact hkC) (by rw [q2]; exact va_asg _ _) rfl rfl hd (fun H' e1 e2 e3 => ?_)
  refine kk p' l e s m args below meth c H' la _ cells slots mc ms G CC hS hL (Rep.set hR hp (fun _ _ => rfl) (fun _ _ => rfl) (fun q hq => up2_row hq) e2 e3 ?_) (hF.put e2 e3 (aA_ad hp)) h1 h2
  show cellA G (K, I, L, up2 R p i.toNatClampNeg (q + 1), t) H' p
  unfold cellA
  dsimp only
  rw [hK]
  show H'[ad G p]? = some (arrV _ n _)
  rw [e1, arrV_store, ← updV_ev5]
  rfl
/-! answers -/
theorem a_iret {x : Int32} (hC : look C pc = some (.ireturn, np, tgt, w)) (hr : C.2.2.2.1 = some .int) (hQ : Q (some (.int x)) h) : AW S C d Q X k1 k2 pc ls [.int x] h := by
  intro p' l e s m args below meth c H la locs cells slots mc ms G CC hS hL hR hF h1 h2
  obtain ⟨hd, rfl, -⟩ := okd CC.2.2.2.2.2.2.2.2.2 hC rfl
  have hlk := CC.2.2.2.1
  refine vx_ret (W.widen (k := mc) (n := ms) (by omega) (by omega) (W.iret CC.1 CC.2.1 (CC.2.2.1.trans hr) (fun t ht hW => ⟨some (.int x), h, rfl, hQ, by rw [ht]; exact hR, hF.F ht⟩) hF.2.2 hd hlk))
theorem a_zret {x : Int32} (hC : look C pc = some (.ireturn, np, tgt, w)) (hr : C.2.2.2.1 = some .boolean) (hx : narrow .boolean (.int x) = .int x) (hQ : Q (some (.int x)) h) : AW S C d Q X k1 k2 pc ls [.int x] h := by
  intro p' l e s m args below meth c H la locs cells slots mc ms G CC hS hL hR hF h1 h2
  obtain ⟨hd, rfl, -⟩ := okd CC.2.2.2.2.2.2.2.2.2 hC rfl
  have hlk := CC.2.2.2.1
  refine vx_ret (W.widen (k := mc) (n := ms) (by omega) (by omega) (W.zret CC.1 CC.2.1 (CC.2.2.1.trans hr) hx (fun t ht hW => ⟨some (.int x), h, rfl, hQ, by rw [ht]; exact hR, hF.F ht⟩) hF.2.2 hd hlk))
theorem a_cret {x : Int32} (hC : look C pc = some (.ireturn, np, tgt, w)) (hr : C.2.2.2.1 = some .char) (hx : narrow .char (.int x) = .int x) (hQ : Q (some (.int x)) h) : AW S C d Q X k1 k2 pc ls [.int x] h := by
  intro p' l e s m args below meth c H la locs cells slots mc ms G CC hS hL hR hF h1 h2
  obtain ⟨hd, rfl, -⟩ := okd CC.2.2.2.2.2.2.2.2.2 hC rfl
  have hlk := CC.2.2.2.1
  refine vx_ret (W.widen (k := mc) (n := ms) (by omega) (by omega) (W.zret CC.1 CC.2.1 (CC.2.2.1.trans hr) hx (fun t ht hW => ⟨some (.int x), h, rfl, hQ, by rw [ht]; exact hR, hF.F ht⟩) hF.2.2 hd hlk))
theorem a_lret {x : Int64} (hC : look C pc = some (.lreturn, np, tgt, w)) (hr : C.2.2.2.1 = some .long) (hQ : Q (some (.long x)) h) : AW S C d Q X k1 k2 pc ls [.long x] h := by
  intro p' l e s m args below meth c H la locs cells slots mc ms G CC hS hL hR hF h1 h2
  obtain ⟨hd, rfl, -⟩ := okd CC.2.2.2.2.2.2.2.2.2 hC rfl
  have hlk := CC.2.2.2.1
  refine vx_ret (W.widen (k := mc) (n := ms) (by omega) (by omega) (W.lret CC.1 CC.2.1 (CC.2.2.1.trans hr) (fun t ht hW => ⟨some (.long x), h, rfl, hQ, by rw [ht]; exact hR, hF.F ht⟩) hF.2.2 hd hlk))
theorem a_vret (hC : look C pc = some (.return_, np, tgt, w)) (hr : C.2.2.2.1 = none) (hQ : Q none h) : AW S C d Q X k1 k2 pc ls [] h := by
  intro p' l e s m args below meth c H la locs cells slots mc ms G CC hS hL hR hF h1 h2
  obtain ⟨hd, rfl, -⟩ := okd CC.2.2.2.2.2.2.2.2.2 hC rfl
  have hlk := CC.2.2.2.1
  refine vx_ret (W.widen (k := mc) (n := ms) (by omega) (by omega) (W.vret CC.1 CC.2.1 (CC.2.2.1.trans hr) (fun t ht hW => ⟨none, h, rfl, hQ, by rw [ht]; exact hR, hF.F ht⟩) hF.2.2 hd hlk))
theorem a_aret {q : Nat} {rt : FieldType} (hC : look C pc = some (.areturn, np, tgt, w)) (hr : C.2.2.2.1 = some rt) (hrt : isRefTy rt = true) (hQ : Q (some (rv q)) h) : AW S C d Q X k1 k2 pc ls [rv q] h := by
  intro p' l e s m args below meth c H la locs cells slots mc ms G CC hS hL hR hF h1 h2
  obtain ⟨hd, rfl, -⟩ := okd CC.2.2.2.2.2.2.2.2.2 hC rfl
  have hlk := CC.2.2.2.1
  refine vx_ret (W.widen (k := mc) (n := ms) (by omega) (by omega) (W.aret CC.1 CC.2.1 (CC.2.2.1.trans hr) ?_ (mv_rv_or G q) (fun t ht hW => ⟨some (rv q), h, rfl, hQ, by rw [ht]; exact hR, hF.F ht⟩) hF.2.2 hd hlk))
  cases rt <;> first | (cases hrt; done) | exact Or.inl ⟨_, rfl⟩ | exact Or.inr ⟨_, rfl⟩
end A7
