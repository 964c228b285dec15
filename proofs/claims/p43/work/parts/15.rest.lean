section
/-! ===== the rules of AW: making, constants, the library, throwing ===== -/
def upK (K : Nat → Nat × Nat) (p : Nat) (v : Nat × Nat) : Nat → Nat × Nat := fun q => if q = p then v else K q
/-- 'new' of a class of places -/
def LN (own : String) (idx ci N : Nat) : Prop := ∃ r, aC[ci]? = some r ∧ aOk r ∧ r.1.2.2 = N ∧ inT (.classLink own idx r.1.1) ∧ inT (.instantiable r.1.1 r.1.2.2) ∧ inT (.initialized r.1.1) ∧ ∀ k, k < N → (isIntTy (r.2 k) || isRefTy (r.2 k)) = true
theorem Rep.push {G : aG} {K : Nat → Nat × Nat} {I : Nat → Nat → Int32} {L : Nat → Nat → Int64} {R : Nat → Nat → Nat} {t : Nat} {v : Nat × Nat} {H H' : Heap} (hR : Rep G (K, I, L, R, t) H) (ht : 200 ≤ t) (hz : H'.size = H.size + 1) (ho : ∀ q, q < H.size → H'[q]? = H[q]?) (hc : ad G t = H.size → cellA G (upK K t v, I, L, R, t + 1) H' t) : Rep G (upK K t v, I, L, R, t + 1) H' ∧ ad G t = H.size := by
  obtain ⟨h1, h2, h3, h4⟩ := hR
  have e : ad G t = H.size := by rw [ad_dyn ht]; exact (h3 ht).symm
  refine ⟨⟨fun q => ?_, fun q hq => ?_, fun z => ?_, by rw [hz]; exact Nat.le_succ_of_le h4⟩, e⟩
  · by_cases hq : q = t
    · subst hq
      exact hc e
    · have h5 := h1 q
      unfold cellA at h5 ⊢
      dsimp only at h5 ⊢
      rw [show upK K t v q = K q by simp [upK, hq]]
      rcases hk : K q with ⟨a, b⟩
      rw [hk] at h5
      rcases a with _ | _ | a
      · trivial
      · obtain ⟨r, r1, cell, r2, r3⟩ := h5
        exact ⟨r, r1, cell, (ho _ (Array.getElem?_eq_some_iff.mp r2).1).trans r2, r3⟩
      · have h6 : H[ad G q]? = some (arrV (G.2.1 (a + 2)) b (fun j => ev G I L R (a + 2) q j)) := h5
        exact (ho _ (Array.getElem?_eq_some_iff.mp h6).1).trans h6
  · by_cases hqt : q = t
    · rw [hqt]; exact ht
    · exact h2 q (by simpa [upK, hqt] using hq)
  · show H'.size = _
    rw [hz, h3 ht]
    show G.2.2.1 + (t - 200) + 1 = G.2.2.1 + (t + 1 - 200)
    omega
theorem fv_zero {G : aG} {I : Nat → Nat → Int32} {R : Nat → Nat → Nat} {p k : Nat} {ty : FieldType} (h : (isIntTy ty || isRefTy ty) = true) (hI : I p k = 0) (hR : R p k = 0) : fv G I R p ty k = defaultValue ty := by
  cases ty <;> first | (cases h; done) | simp [fv, hI, hR, defaultValue, rv, mv]
def atyTag : ArrayType → Nat
  | .int => 2
  | .byte => 3
  | .long => 4
  | _ => 9
theorem aty_cases {aty : ArrayType} {tg : Nat} (h : atyTag aty = tg + 2) (h3 : tg < 3) : (aty = .int ∧ tg = 0) ∨ (aty = .byte ∧ tg = 1) ∨ (aty = .long ∧ tg = 2) := by
  cases aty <;> simp only [atyTag] at h <;> first | (exact absurd h (by omega)) | exact Or.inl ⟨rfl, by omega⟩ | exact Or.inr (Or.inl ⟨rfl, by omega⟩) | exact Or.inr (Or.inr ⟨rfl, by omega⟩)
section B1
variable {S : aS} {C C' : aM} {d d' : Nat} {Q Q' : Option Value → aH → Prop} {X X' : String → aH → Prop} {k1 k2 j1 j2 pc np tgt n : Nat} {w : Int32} {ls ls' : List (Option Value)} {st st' st0 : List Value} {h : aH} {ins : Instr} {As : List Value}
variable {K : Nat → Nat × Nat} {I : Nat → Nat → Int32} {L : Nat → Nat → Int64} {R : Nat → Nat → Nat} {t : Nat}
theorem a_new {idx ci N : Nat} (hC : look C pc = some (.new idx, np, tgt, w)) (hl : LN C.1.cls idx ci N) (ht : Nat.ble 200 t = true) (h1 : Nat.ble 1 k1 = true) (h2 : Nat.ble N k2 = true) (hI : ∀ k, I t k = 0) (hR0 : ∀ k, R t k = 0) (kk : AW S C d Q X (k1 - 1) (k2 - N) np ls (.ref t :: st) (upK K t (1, ci), I, L, R, t + 1)) : AW S C d Q X k1 k2 pc ls st (K, I, L, R, t) := by
  intro p l e s m args below meth c H la locs cells slots mc ms G CC hS hL hR hF g1 g2
  obtain ⟨hd, rfl, -⟩ := okd CC.2.2.2.2.2.2.2.2.2 hC rfl
  have ht := Nat.le_of_ble_eq_true ht
  have h1 := Nat.le_of_ble_eq_true h1
  have h2 := Nat.le_of_ble_eq_true h2
  obtain ⟨r, hr, hok, rfl, w1, w2, w3, hty⟩ := hl
  have hKn := hS.1 ci r hr
  have tk : ∀ x, inT x → x.before args s = true := fun x hx => gT_ok hS _ (inT_gT hx)
  have hts : ∀ w ∈ u_ws r.1.1 r.1.2.1 r.1.2.2, w.before args s = true := fun w hw => tk w (hok.1 w hw)
  refine W.newcK CC.1 CC.2.1 CC.2.2.2.2.2.1 (tk _ w1) (tk _ w2) (tk _ w3) rfl hd (by show cells + 1 ≤ mc; omega) (by show slots + r.1.2.2 ≤ ms; omega) hKn.2.1 rfl fun H1 kC hkC e1 z1 o1 => ?_
  obtain ⟨hR', ea⟩ := Rep.push (v := (1, ci)) (H' := H1) hR ht z1 o1 (fun ea => by
    unfold cellA
    dsimp only
    rw [show upK K t (1, ci) t = (1, ci) by simp [upK]]
    obtain ⟨cell, c1, c2, c3, c4⟩ := u_born (o := H.size) r.2 hts (fun w hw => hw) hKn hkC e1 hok.2.2
    refine ⟨r, hr, cell, by rw [ea]; exact c1, c2, c3, fun k hk => ?_⟩
    rw [c4 k hk]
    exact congrArg some (fv_zero (hty k hk) (hI k) (hR0 k)).symm)
  rw [← ea]
  exact kk p l e s m args below meth c H1 la locs (cells + 1) (slots + r.1.2.2) mc ms G CC hS hL hR' ⟨Nat.le_trans hF.1 (by omega), fun q q1 q2 => (o1 q (Nat.lt_of_lt_of_le q1 hF.1)).trans (hF.2.1 q q1 q2), hF.2.2⟩ (by omega) (by omega)
theorem a_newarr {aty : ArrayType} {x : Int32} {N tg : Nat} (hC : look C pc = some (.newarray aty, np, tgt, w)) (ha : atyTag aty = tg + 2) (htg : Nat.blt tg 3 = true) (hw : inT (.arrayClass (newarray.typeOf aty))) (hx : ¬ x < 0) (hN : x.toNatClampNeg = N) (hN2 : Nat.ble N 60000 = true) (ht : Nat.ble 200 t = true) (h1 : Nat.ble 1 k1 = true) (h2 : Nat.ble N k2 = true) (hI : ∀ k, I t k = 0) (hL0 : ∀ k, L t k = 0) (kk : AW S C d Q X (k1 - 1) (k2 - N) np ls (.ref t :: st) (upK K t (tg + 2, N), I, L, R, t + 1)) : AW S C d Q X k1 k2 pc ls (.int x :: st) (K, I, L, R, t) := by
  intro p l e s m args below meth c H la locs cells slots mc ms G CC hS hL hR hF g1 g2
  obtain ⟨hd, rfl, -⟩ := okd CC.2.2.2.2.2.2.2.2.2 hC rfl
  have ht := Nat.le_of_ble_eq_true ht
  have h1 := Nat.le_of_ble_eq_true h1
  have h2 := Nat.le_of_ble_eq_true h2
  have hN2 := Nat.le_of_ble_eq_true hN2
  have htg : tg < 3 := Nat.le_of_ble_eq_true htg
  have tk : ∀ x, inT x → x.before args s = true := fun x hx => gT_ok hS _ (inT_gT hx)
  have hbytes : N * componentBytes (newarray.typeOf aty) ≤ 536870912 := by
    have : componentBytes (newarray.typeOf aty) ≤ 8 := by cases aty <;> decide
    calc N * componentBytes (newarray.typeOf aty) ≤ 60000 * 8 := Nat.mul_le_mul hN2 this
      _ ≤ 536870912 := by decide
  refine va_newaK CC.1 CC.2.1 (tk _ hw) rfl hd rfl hx hN hbytes (by show cells + 1 ≤ mc; omega) (by show slots + N ≤ ms; omega) rfl fun H1 cA e1 z1 o1 hAr hNm => ?_
  have hcA : cA = G.2.1 (tg + 2) := by
    have h3 := (hS.2.1 tg (by omega)).2
    rcases aty_cases ha htg with ⟨rfl, rfl⟩ | ⟨rfl, rfl⟩ | ⟨rfl, rfl⟩ <;> exact Option.some.inj (hNm.symm.trans h3)
  subst hcA
  obtain ⟨hR', ea⟩ := Rep.push (v := (tg + 2, N)) (H' := H1) hR ht z1 o1 (fun ea => by
    unfold cellA
    dsimp only
    rw [show upK K t (tg + 2, N) t = (tg + 2, N) by simp [upK]]
    show H1[ad G t]? = some (arrV _ _ _)
    rw [ea, e1]
    congr 2
    funext j
    rcases aty_cases ha htg with ⟨rfl, rfl⟩ | ⟨rfl, rfl⟩ | ⟨rfl, rfl⟩ <;> simp [ev, hI, hL0, newarray.typeOf, defaultValue])
  rw [← ea]
  exact kk p l e s m args below meth c H1 la locs (cells + 1) (slots + N) mc ms G CC hS hL hR' ⟨Nat.le_trans hF.1 (by omega), fun q q1 q2 => (o1 q (Nat.lt_of_lt_of_le q1 hF.1)).trans (hF.2.1 q q1 q2), hF.2.2⟩ (by omega) (by omega)
/-- the one array of streets -/
theorem a_anew {idx N : Nat} {x : Int32} (hC : look C pc = some (.anewarray idx, np, tgt, w)) (hw1 : inT (.classLink C.1.cls idx RX5)) (hx : ¬ x < 0) (hN : x.toNatClampNeg = N) (hN2 : Nat.ble N 60000 = true) (ht : Nat.ble 200 t = true) (h1 : Nat.ble 1 k1 = true) (h2 : Nat.ble N k2 = true) (hR0 : ∀ k, R t k = 0) (kk : AW S C d Q X (k1 - 1) (k2 - N) np ls (.ref t :: st) (upK K t (5, N), I, L, R, t + 1)) : AW S C d Q X k1 k2 pc ls (.int x :: st) (K, I, L, R, t) := by
  intro p l e s m args below meth c H la locs cells slots mc ms G CC hS hL hR hF g1 g2
  obtain ⟨hd, rfl, -⟩ := okd CC.2.2.2.2.2.2.2.2.2 hC rfl
  have ht := Nat.le_of_ble_eq_true ht
  have h1 := Nat.le_of_ble_eq_true h1
  have h2 := Nat.le_of_ble_eq_true h2
  have hN2 := Nat.le_of_ble_eq_true hN2
  have tk : ∀ x, inT x → x.before args s = true := fun x hx => gT_ok hS _ (inT_gT hx)
  subst hN
  refine W.anew CC.1 CC.2.1 CC.2.2.2.2.2.1 (tk _ hw1) hS.2.2.2.2.2.2.2.use rfl hd rfl hx (by omega) (by show cells + 1 ≤ mc; omega) (by show slots + _ ≤ ms; omega) fun cA kA comp e0 e1 e2 e3 => ?_
  have hcA : cA = G.2.1 5 := by
    obtain ⟨kA', comp', b1, b2, b3, b4⟩ := (hS.2.1 3 (by decide)).2
    exact Option.some.inj (e0.symm.trans b4)
  subst hcA
  obtain ⟨hR', ea⟩ := Rep.push (v := (5, x.toNatClampNeg)) (H' := H.push { cls := G.2.1 5, slots := Array.replicate x.toNatClampNeg .null, vm := .none }) hR ht (by simp) (fun q hq => by rw [Array.getElem?_push, if_neg (Nat.ne_of_lt hq)]) (fun ea => by
    unfold cellA
    dsimp only
    rw [show upK K t (5, x.toNatClampNeg) t = (5, x.toNatClampNeg) by simp [upK]]
    show (H.push _)[ad G t]? = some (arrV _ _ _)
    rw [ea, arrV_new]
    simp only [Array.getElem?_push_size]
    congr 2
    funext j
    simp [ev, hR0, rv, mv])
  have K2 := kk p l e s m args below meth c _ la locs (cells + 1) (slots + x.toNatClampNeg) mc ms G CC hS hL hR' ⟨Nat.le_trans hF.1 (by simp), fun q q1 q2 => (by rw [Array.getElem?_push, if_neg (Nat.ne_of_lt (Nat.lt_of_lt_of_le q1 hF.1))]; exact hF.2.1 q q1 q2), hF.2.2⟩ (by omega) (by omega)
  simp only [List.map_cons, mv, ea] at K2
  exact K2
theorem a_objinit {idx q : Nat} (hC : look C pc = some (.invokespecial idx, np, tgt, w)) (hl : inT (.methodLink C.1.cls idx Lib.objectInit)) (hi : inT (.instanceMethod Lib.objectInit)) (hc : inT (.code Lib.objectInit ⟨#[0xb1]⟩ 1 none)) (hd1 : Nat.ble 1 d = true) (hst : Nat.ble (st.map fun v => v.category).sum 8 = true) (kk : AW S C d Q X k1 k2 np ls st h) : AW S C d Q X k1 k2 pc ls (.ref q :: st) h := by
  intro p l e s m args below meth c H la locs cells slots mc ms G CC hS hL hR hF g1 g2
  obtain ⟨hd, rfl, -⟩ := okd CC.2.2.2.2.2.2.2.2.2 hC rfl
  have hd1 := Nat.le_of_ble_eq_true hd1
  have hst := Nat.le_of_ble_eq_true hst
  have tk : ∀ x, inT x → x.before args s = true := fun x hx => gT_ok hS _ (inT_gT hx)
  refine W.objInit CC.1 CC.2.1 CC.2.2.2.2.2.1 (tk _ hl) (tk _ hi) (tk _ hc) rfl (hL.1.trans CC.2.2.2.2.1.symm) (rest := st.map (mv G)) rfl hd (by show 1 ≤ d + 998; omega) ?_ (kk p l e s m args below meth c H la locs cells slots mc ms G CC hS hL hR hF g1 g2)
  rw [cat_map]
  show 2 * 0 + _ + 12 ≤ 80 * d
  omega
/-! constants -/
theorem a_ldc {idx : Nat} {v : Int32} (hC : look C pc = some (.ldc idx, np, tgt, w)) (hl : inT (.constant C.1.cls idx v)) (kk : AW S C d Q X k1 k2 np ls (.int v :: st) h) : AW S C d Q X k1 k2 pc ls st h := by
  intro p l e s m args below meth c H la locs cells slots mc ms G CC hS hL hR hF g1 g2
  obtain ⟨hd, rfl, -⟩ := okd CC.2.2.2.2.2.2.2.2.2 hC rfl
  exact lv_ldc CC.1 CC.2.1 CC.2.2.2.2.2.1 (gT_ok hS _ (inT_gT hl)) hd (kk p l e s m args below meth c H la locs cells slots mc ms G CC hS hL hR hF g1 g2)
theorem a_ldcw {idx : Nat} {v : Int32} (hC : look C pc = some (.ldc_w idx, np, tgt, w)) (hl : inT (.constant C.1.cls idx v)) (kk : AW S C d Q X k1 k2 np ls (.int v :: st) h) : AW S C d Q X k1 k2 pc ls st h := by
  intro p l e s m args below meth c H la locs cells slots mc ms G CC hS hL hR hF g1 g2
  obtain ⟨hd, rfl, -⟩ := okd CC.2.2.2.2.2.2.2.2.2 hC rfl
  exact lv_ldcw CC.1 CC.2.1 CC.2.2.2.2.2.1 (gT_ok hS _ (inT_gT hl)) hd (kk p l e s m args below meth c H la locs cells slots mc ms G CC hS hL hR hF g1 g2)
theorem a_ldc2 {idx : Nat} {v : Int64} (hC : look C pc = some (.ldc2_w idx, np, tgt, w)) (hl : inT (.constantLong C.1.cls idx v)) (kk : AW S C d Q X k1 k2 np ls (.long v :: st) h) : AW S C d Q X k1 k2 pc ls st h := by
  intro p l e s m args below meth c H la locs cells slots mc ms G CC hS hL hR hF g1 g2
  obtain ⟨hd, rfl, -⟩ := okd CC.2.2.2.2.2.2.2.2.2 hC rfl
  exact lv_ldc2 CC.1 CC.2.1 CC.2.2.2.2.2.1 (gT_ok hS _ (inT_gT hl)) hd (kk p l e s m args below meth c H la locs cells slots mc ms G CC hS hL hR hF g1 g2)
theorem a_ldcs {idx q : Nat} {tx : String} (hC : look C pc = some (.ldc idx, np, tgt, w)) (hl : (C.1.cls, idx, tx, q) ∈ S.2.2.2.2.1) (kk : AW S C d Q X k1 k2 np ls (.ref q :: st) h) : AW S C d Q X k1 k2 pc ls st h := by
  intro p l e s m args below meth c H la locs cells slots mc ms G CC hS hL hR hF g1 g2
  obtain ⟨hd, rfl, -⟩ := okd CC.2.2.2.2.2.2.2.2.2 hC rfl
  have h5 : vk_R C.1.cls idx tx (ad G q) s := hS.2.2.2.2.1 (C.1.cls, idx, tx, q) hl
  exact va_ldcS (rest := st.map (mv G)) CC.1 CC.2.1 CC.2.2.2.2.2.1 h5 hd (kk p l e s m args below meth c H la locs cells slots mc ms G CC hS hL hR hF g1 g2)
theorem a_gets {idx : Nat} {cn f dd : String} {v : Value} (hC : look C pc = some (.getstatic idx, np, tgt, w)) (hl : inT (.fieldLink C.1.cls idx cn f dd)) (hs : (cn, f, dd, v) ∈ S.1) (kk : AW S C d Q X k1 k2 np ls (v :: st) h) : AW S C d Q X k1 k2 pc ls st h := by
  intro p l e s m args below meth c H la locs cells slots mc ms G CC hS hL hR hF g1 g2
  obtain ⟨hd, rfl, -⟩ := okd CC.2.2.2.2.2.2.2.2.2 hC rfl
  exact va_gets CC.1 CC.2.1 (hS.2.2.2.1.2.1 _ hs) hF CC.2.2.2.2.2.1 (gT_ok hS _ (inT_gT hl)) (fun _ z => z) hd (kk p l e s m args below meth c H la locs cells slots mc ms G CC hS hL hR hF g1 g2)
/-- a constant object's field -/
theorem a_getc {idx q : Nat} {o f dd : String} {v : Value} (hC : look C pc = some (.getfield idx, np, tgt, w)) (hl : inT (.fieldLink C.1.cls idx o f dd)) (hs : (q, o, f, dd, v) ∈ S.2.2.1) (kk : AW S C d Q X k1 k2 np ls (v :: st) h) : AW S C d Q X k1 k2 pc ls (.ref q :: st) h := by
  intro p l e s m args below meth c H la locs cells slots mc ms G CC hS hL hR hF g1 g2
  obtain ⟨hd, rfl, -⟩ := okd CC.2.2.2.2.2.2.2.2.2 hC rfl
  obtain ⟨cf, k, i, fd, cell, r1, r2, r3, r4, r5, r6⟩ := hS.2.2.2.1.2.2.2.1 _ hs
  have hq : H[ad G q]? = some cell := by
    rw [hF.2.1 _ (Array.getElem?_eq_some_iff.mp r3).1 r6]
    exact r3
  exact W.getf CC.1 CC.2.1 CC.2.2.2.2.2.1 (gT_ok hS _ (inT_gT hl)) r1 r2 hq r4 r5 rfl rfl hd (kk p l e s m args below meth c H la locs cells slots mc ms G CC hS hL hR hF g1 g2)
/-- a constant array -/
theorem a_lenc {q N : Nat} {ty : FieldType} {f : Nat → Value} (hC : look C pc = some (.arraylength, np, tgt, w)) (hs : (q, ty, N, f) ∈ S.2.2.2.1) {x : Int32} (hx : Int32.ofNat N = x) (kk : AW S C d Q X k1 k2 np ls (.int x :: st) h) : AW S C d Q X k1 k2 pc ls (.ref q :: st) h := by
  intro p l e s m args below meth c H la locs cells slots mc ms G CC hS hL hR hF g1 g2
  obtain ⟨hd, rfl, -⟩ := okd CC.2.2.2.2.2.2.2.2.2 hC rfl
  obtain ⟨cell, r1, r2, r3, r4, r5, r6, r7⟩ := hS.2.2.2.1.2.2.2.2 _ hs
  have hq : H[ad G q]? = some cell := by
    rw [hF.2.1 _ (Array.getElem?_eq_some_iff.mp r1).1 r7]
    exact r1
  exact W.alen CC.1 CC.2.1 hq r2 (r5.trans hx) rfl rfl hd (kk p l e s m args below meth c H la locs cells slots mc ms G CC hS hL hR hF g1 g2)
theorem a_aaldc {q N : Nat} {ty : FieldType} {f : Nat → Value} {i : Int32} (hC : look C pc = some (.aaload, np, tgt, w)) (hs : (q, ty, N, f) ∈ S.2.2.2.1) (hty : ty.isReference = true) (hi : inI i N) (kk : AW S C d Q X k1 k2 np ls (f i.toNatClampNeg :: st) h) : AW S C d Q X k1 k2 pc ls (.int i :: .ref q :: st) h := by
  intro p l e s m args below meth c H la locs cells slots mc ms G CC hS hL hR hF g1 g2
  obtain ⟨hd, rfl, -⟩ := okd CC.2.2.2.2.2.2.2.2.2 hC rfl
  obtain ⟨cell, r1, r2, r3, r4, r5, r6, r7⟩ := hS.2.2.2.1.2.2.2.2 _ hs
  have hq : H[ad G q]? = some cell := by
    rw [hF.2.1 _ (Array.getElem?_eq_some_iff.mp r1).1 r7]
    exact r1
  exact W.aald CC.1 CC.2.1 hq r2 hty r3 (inI_not ⟨hi.1, Nat.lt_of_lt_of_le hi.2 r4⟩) (r6 _ hi.2) rfl rfl hd (kk p l e s m args below meth c H la locs cells slots mc ms G CC hS hL hR hF g1 g2)
theorem a_baldc {q N : Nat} {f : Nat → Value} {i : Int32} (hC : look C pc = some (.baload, np, tgt, w)) (hs : (q, .byte, N, f) ∈ S.2.2.2.1) (hi : inI i N) (kk : AW S C d Q X k1 k2 np ls (f i.toNatClampNeg :: st) h) : AW S C d Q X k1 k2 pc ls (.int i :: .ref q :: st) h := by
  intro p l e s m args below meth c H la locs cells slots mc ms G CC hS hL hR hF g1 g2
  obtain ⟨hd, rfl, -⟩ := okd CC.2.2.2.2.2.2.2.2.2 hC rfl
  obtain ⟨cell, r1, r2, r3, r4, r5, r6, r7⟩ := hS.2.2.2.1.2.2.2.2 _ hs
  have hq : H[ad G q]? = some cell := by
    rw [hF.2.1 _ (Array.getElem?_eq_some_iff.mp r1).1 r7]
    exact r1
  exact W.bald CC.1 CC.2.1 hq r2 r3 (inI_not ⟨hi.1, Nat.lt_of_lt_of_le hi.2 r4⟩) (r6 _ hi.2) rfl rfl hd (kk p l e s m args below meth c H la locs cells slots mc ms G CC hS hL hR hF g1 g2)
/-! the library -/
def mOk (y : MethodName) (b : ByteArray) (n : Nat) : Prop := inT (.static y) ∧ inT (.initialized "java/lang/Math") ∧ inT (.code y b n (some .int))
theorem a_min {idx : Nat} {x y : Int32} (hC : look C pc = some (.invokestatic idx, np, tgt, w)) (hl : inT (.methodLink C.1.cls idx Lib.Math.min.name)) (hm : mOk Lib.Math.min.name Lib.Math.min.code 2) (hd1 : Nat.ble 1 d = true) (hst : Nat.ble (st.map fun v => v.category).sum 8 = true) (kk : AW S C d Q X k1 k2 np ls (.int (if y < x then y else x) :: st) h) : AW S C d Q X k1 k2 pc ls (.int y :: .int x :: st) h := by
  intro p l e s m args below meth c H la locs cells slots mc ms G CC hS hL hR hF g1 g2
  obtain ⟨hd, rfl, -⟩ := okd CC.2.2.2.2.2.2.2.2.2 hC rfl
  have hd1 := Nat.le_of_ble_eq_true hd1
  have hst := Nat.le_of_ble_eq_true hst
  have tk : ∀ x, inT x → x.before args s = true := fun x hx => gT_ok hS _ (inT_gT hx)
  refine va_mmin CC.1 CC.2.1 (CC.2.2.2.2.1.trans hL.1.symm) CC.2.2.2.2.2.1 (tk _ hl) (tk _ hm.1) (tk _ hm.2.1) (tk _ hm.2.2) (by show 1 ≤ d + 998; omega) ?_ (by show cells ≤ mc; omega) (by show slots ≤ ms; omega) hd (kk p l e s m args below meth c H la locs cells slots mc ms G CC hS hL hR hF g1 g2)
  rw [cat_map]
  show _ + 13 ≤ 80 * d
  omega
theorem a_max {idx : Nat} {x y : Int32} (hC : look C pc = some (.invokestatic idx, np, tgt, w)) (hl : inT (.methodLink C.1.cls idx Lib.Math.max.name)) (hm : mOk Lib.Math.max.name Lib.Math.max.code 2) (hd1 : Nat.ble 1 d = true) (hst : Nat.ble (st.map fun v => v.category).sum 8 = true) (kk : AW S C d Q X k1 k2 np ls (.int (if x < y then y else x) :: st) h) : AW S C d Q X k1 k2 pc ls (.int y :: .int x :: st) h := by
  intro p l e s m args below meth c H la locs cells slots mc ms G CC hS hL hR hF g1 g2
  obtain ⟨hd, rfl, -⟩ := okd CC.2.2.2.2.2.2.2.2.2 hC rfl
  have hd1 := Nat.le_of_ble_eq_true hd1
  have hst := Nat.le_of_ble_eq_true hst
  have tk : ∀ x, inT x → x.before args s = true := fun x hx => gT_ok hS _ (inT_gT hx)
  refine va_mmax CC.1 CC.2.1 (CC.2.2.2.2.1.trans hL.1.symm) CC.2.2.2.2.2.1 (tk _ hl) (tk _ hm.1) (tk _ hm.2.1) (tk _ hm.2.2) (by show 1 ≤ d + 998; omega) ?_ (by show cells ≤ mc; omega) (by show slots ≤ ms; omega) hd (kk p l e s m args below meth c H la locs cells slots mc ms G CC hS hL hR hF g1 g2)
  rw [cat_map]
  show _ + 13 ≤ 80 * d
  omega
theorem a_abs {idx : Nat} {x : Int32} (hC : look C pc = some (.invokestatic idx, np, tgt, w)) (hl : inT (.methodLink C.1.cls idx Lib.Math.abs.name)) (hm : mOk Lib.Math.abs.name Lib.Math.abs.code 1) (hd1 : Nat.ble 1 d = true) (hst : Nat.ble (st.map fun v => v.category).sum 8 = true) (kk : AW S C d Q X k1 k2 np ls (.int (if 0 ≤ x then x else 0 - x) :: st) h) : AW S C d Q X k1 k2 pc ls (.int x :: st) h := by
  intro p l e s m args below meth c H la locs cells slots mc ms G CC hS hL hR hF g1 g2
  obtain ⟨hd, rfl, -⟩ := okd CC.2.2.2.2.2.2.2.2.2 hC rfl
  have hd1 := Nat.le_of_ble_eq_true hd1
  have hst := Nat.le_of_ble_eq_true hst
  have tk : ∀ x, inT x → x.before args s = true := fun x hx => gT_ok hS _ (inT_gT hx)
  refine va_mabs CC.1 CC.2.1 (CC.2.2.2.2.1.trans hL.1.symm) CC.2.2.2.2.2.1 (tk _ hl) (tk _ hm.1) (tk _ hm.2.1) (tk _ hm.2.2) (by show 1 ≤ d + 998; omega) ?_ (by show cells ≤ mc; omega) (by show slots ≤ ms; omega) hd (kk p l e s m args below meth c H la locs cells slots mc ms G CC hS hL hR hF g1 g2)
  rw [cat_map]
  show _ + 13 ≤ 80 * d
  omega
def upr {α : Type} (f : Nat → α) (p : Nat) (r : α) : Nat → α := fun q => if q = p then r else f q
/-- System.arraycopy of rows of ints -/
theorem a_copy {idx q q' n0 n1 : Nat} {sp dp n : Int32} (hC : look C pc = some (.invokestatic idx, np, tgt, w)) (hl : inT (.methodLink C.1.cls idx arraycopyName)) (hm : inT (.native arraycopyName) ∧ inT (.static arraycopyName) ∧ inT (.initialized "java/lang/System")) (hK0 : K q = (2, n0)) (hK1 : K q' = (2, n1)) (h1 : ¬ sp < 0) (h2 : ¬ dp < 0) (h3 : ¬ n < 0) (h4 : sp.toNatClampNeg + n.toNatClampNeg ≤ n0) (h5 : dp.toNatClampNeg + n.toNatClampNeg ≤ n1) (hd1 : Nat.ble 1 d = true) (hst : Nat.ble (st.map fun v => v.category).sum 8 = true)
    (kk : AW S C d Q X k1 k2 np ls st (K, upr I q' (va_cpy (I q) (I q') sp.toNatClampNeg dp.toNatClampNeg n.toNatClampNeg), L, R, t)) : AW S C d Q X k1 k2 pc ls (.int n :: .int dp :: .ref q' :: .int sp :: .ref q :: st) (K, I, L, R, t) := by
  intro p l e s m args below meth c H la locs cells slots mc ms G CC hS hL hR hF g1 g2
  obtain ⟨hd, rfl, -⟩ := okd CC.2.2.2.2.2.2.2.2.2 hC rfl
  have hd1 := Nat.le_of_ble_eq_true hd1
  have hst := Nat.le_of_ble_eq_true hst
  have tk : ∀ x, inT x → x.before args s = true := fun x hx => gT_ok hS _ (inT_gT hx)
  have nn : ∀ z : Int32, ¬ z < 0 → z.toInt = (z.toNatClampNeg : Int) := by
    intro z hz
    have hz0 : (0 : Int) ≤ z.toInt := by
      have := Int32.not_lt.mp hz
      simpa using Int32.le_iff_toInt_le.mp this
    show z.toInt = ((z.toInt.toNat : Nat) : Int)
    omega
  have hp : 200 ≤ q' := hR.2.1 q' (by show (K q').1 ≠ 0; rw [hK1]; simp)
  have hc0 : H[ad G q]? = some (arrV (G.2.1 2) n0 (fun j => .int (I q j))) := hR.ar (t := 0) hK0
  have hc1 : H[ad G q']? = some (arrV (G.2.1 2) n1 (fun j => .int (I q' j))) := hR.ar (t := 0) hK1
  obtain ⟨-, k0, hk0, cm0, hkk0⟩ := (hS.2.1 0 (by decide)).1 n0 (fun j => .int (I q j))
  obtain ⟨-, kk1, hkk1', cm1, hkk1⟩ := (hS.2.1 0 (by decide)).1 n1 (fun j => .int (I q' j))
  intro T hT Y
  obtain ⟨vm', X', step⟩ := Y.arraycopy CC.1 CC.2.2.2.2.2.1 (tk _ hl) (tk _ hm.1) (tk _ hm.2.1) (tk _ hm.2.2) (src := ad G q) (dst := ad G q') (cs := arrV (G.2.1 2) n0 (fun j => .int (I q j))) (cd := arrV (G.2.1 2) n1 (fun j => .int (I q' j))) (srcPos := sp) (destPos := dp) (n := n) (by rw [hT]; exact hc0) (by rw [hT]; exact hc1)
    (arrV_ks _ _ _) (arrV_ks _ _ _) (arrV_kn _ _ _) (arrV_kn _ _ _) hk0 hkk1' hkk0 hkk1 (by simp [tagTy, refKind]) h1 h2 h3
    (by rw [nn sp h1, nn n h3, arrV_size]; omega)
    (by rw [nn dp h2, nn n h3, arrV_size]; omega)
    (fun vm₁ _ i hi => by
      have e : (arrV (G.2.1 2) n0 (fun j => Value.int (I q j))).slots.getD (sp.toNatClampNeg + i) .null = .int (I q (sp.toNatClampNeg + i)) := by
        rw [Array.getD_eq_getD_getElem?, arrV_read _ _ (by omega)]
        rfl
      refine ⟨?_, ?_⟩
      · rw [e]
        rfl
      · rw [e]
        exact trivial)
    (g := F0 m pc la ((Value.int n :: .int dp :: .ref q' :: .int sp :: .ref q :: st).map (mv G))) rfl (by show la.size = _; rw [hL.1, CC.2.2.2.2.1]) (rest := st.map (mv G)) rfl (by rw [CC.2.1]; exact hd) (by show 1 ≤ d + 998; omega) (by
      rw [cat_map]
      show 2 * 0 + _ + (nativeFrameWords "java/lang/System" "arraycopy" 5 + 11) ≤ 80 * d
      have : nativeFrameWords "java/lang/System" "arraycopy" 5 ≤ 40 := by decide +kernel
      omega)
  have e1 : copied (arrV (G.2.1 2) n0 (fun j => Value.int (I q j))) (arrV (G.2.1 2) n1 (fun j => Value.int (I q' j))) sp dp n = arrV (G.2.1 2) n1 (fun j => .int (va_cpy (I q) (I q') sp.toNatClampNeg dp.toNatClampNeg n.toNatClampNeg j)) := va_copied (fun z => .int z) (G.2.1 2) (G.2.1 2) (I q) (I q') h4
  rw [e1] at X' step
  have hl2 : ad G q' < H.size := (Array.getElem?_eq_some_iff.mp hc1).1
  obtain ⟨cz, hcz⟩ : ∃ z, z = arrV (G.2.1 2) n1 (fun j => Value.int (va_cpy (I q) (I q') sp.toNatClampNeg dp.toNatClampNeg n.toNatClampNeg j)) := ⟨_, rfl⟩
  rw [← hcz] at X' step
  have hheap : ((T.setVm vm').setCell (ad G q') cz).heap = H.setIfInBounds (ad G q') cz := by rw [← hT]; rfl
  have oq : ∀ z : Nat, z ≠ ad G q' → (H.setIfInBounds (ad G q') cz)[z]? = H[z]? := fun z hz => by simp [Array.getElem?_setIfInBounds, Ne.symm hz]
  have self : (H.setIfInBounds (ad G q') cz)[ad G q']? = some cz := by simp [Array.getElem?_setIfInBounds, hl2]
  have hR' : Rep G (K, upr I q' (va_cpy (I q) (I q') sp.toNatClampNeg dp.toNatClampNeg n.toNatClampNeg), L, R, t) (H.setIfInBounds (ad G q') cz) := by
    refine Rep.set hR hp (fun z hz => by simp [upr, hz]) (fun _ _ => rfl) (fun _ _ => rfl) (by simp) oq ?_
    unfold cellA
    dsimp only
    rw [hK1]
    show (H.setIfInBounds (ad G q') cz)[ad G q']? = some (arrV _ _ _)
    rw [self, hcz]
    congr 2
    funext j
    simp [ev, upr]
  obtain ⟨t2, a1, b1⟩ := kk p l e s m args below meth c _ la _ cells slots mc ms G CC hS hL hR' ⟨by simp; exact hF.1, fun z z1 z2 => by
      rw [oq z (fun e => z2 (by rw [e]; exact aA_ad hp))]
      exact hF.2.1 z z1 z2, fun z hz => by
      rcases List.mem_append.mp hz with hz | hz
      · exact hF.2.2 z hz
      · obtain ⟨y, -, hy⟩ := List.mem_map.mp hz
        rw [← hy]
        exact aA_ad hp⟩ g1 g2 _ hheap X'
  exact ⟨t2, step t2 a1, b1⟩
/-! throwing -/
/-- 'throw new E()' of class own: its words -/
def LT (own : String) (ik ic : Nat) (E : String) (names : List String) : Prop := Bundle.fit E = true ∧ (∀ n ∈ names, Bundle.fit n = true) ∧ inT (.classLink own ik E) ∧ inT (.initialized E) ∧ (∀ w ∈ vx_at0 own ic E names, inX w) ∧ names.length ≤ 5
theorem a_throw {ik ic np1 np2 np3 : Nat} {w1 w2 w3 : Int32} {t0 t1 t2 t3 : Nat} {E : String} {names : List String} (h0 : look C pc = some (.new ik, np, t0, w)) (h3 : look C np = some (.dup, np1, t1, w1)) (h4 : look C np1 = some (.invokespecial ic, np2, t2, w2)) (h7 : look C np2 = some (.athrow, np3, t3, w3)) (hl : LT C.1.cls ik ic E names) (hh : C.2.2.2.2.1 = []) (hd10 : Nat.ble 10 d = true) (hst : Nat.ble (st.map fun v => v.category).sum 8 = true) (hk1 : Nat.ble 1 k1 = true) (hk2 : Nat.ble 6 k2 = true) (hX : X E (K, I, L, R, 0)) : AW S C d Q X k1 k2 pc ls st (K, I, L, R, t) := by
  intro p l e s m args below meth c H la locs cells slots mc ms G CC hS hL hR hF g1 g2
  have hO := CC.2.2.2.2.2.2.2.2.2
  obtain ⟨d0, rfl, -⟩ := okd hO h0 rfl
  obtain ⟨d3, rfl, -⟩ := okd hO h3 rfl
  obtain ⟨d4, rfl, -⟩ := okd hO h4 rfl
  obtain ⟨d7, -, -⟩ := okd hO h7 rfl
  have hd10 := Nat.le_of_ble_eq_true hd10
  have hst := Nat.le_of_ble_eq_true hst
  have hk1 := Nat.le_of_ble_eq_true hk1
  have hk2 := Nat.le_of_ble_eq_true hk2
  have tk : ∀ x, inT x → x.before args s = true := fun x hx => gT_ok hS _ (inT_gT hx)
  obtain ⟨l1, l2, l3, l4, l5, l6⟩ := hl
  refine vx_throw0 CC.1 CC.2.1 CC.2.2.2.2.2.2.2.1 CC.2.2.2.2.2.1 l1 l2 (tk _ l3) (tk _ l4) (fun w hw => hS.2.2.1 w (l5 w hw).1 (l5 w hw).2 args) (fun w hw => ?_) hS.2.2.2.1.1.1 hS.2.2.2.1.1.2 hF (hL.1.trans CC.2.2.2.2.1.symm) d0 d3 d4 d7 (fun x hx => by rw [CC.2.2.2.2.2.2.2.2.1, hh] at hx; cases hx) (by show _ < d + 998; omega) (by rw [cat_map]; show _ ≤ 80 * d; omega) (by show cells + 1 ≤ mc; omega) (by show slots + 6 ≤ ms; omega) CC.2.2.2.1 (fun t' hA hz ho => ?_) hF.2.2 (by omega) (by omega)
  · unfold vx_ot
    rcases List.mem_cons.mp hw with rfl | hw
    · rw [l3.2]; simp
    · rcases List.mem_cons.mp hw with rfl | hw
      · rw [l4.2]; simp
      · have h9 := (l5 w hw).2
        cases hg : goodWord w with
        | true => simp
        | false =>
          rw [hg] at h9
          cases w <;> first | rfl | exact absurd h9 (by simp [isNest])
  · refine ⟨_, hX, ⟨fun q => ?_, hR.2.1, fun z => absurd (show 200 ≤ 0 from z) (by decide), Nat.le_trans hR.2.2.2 hz⟩, ?_⟩
    · refine cellA_congr (t := t) rfl rfl rfl (fun hk => ?_) (hR.1 q)
      have h9 := hR.1 q
      unfold cellA at h9
      dsimp only at h9
      rcases hkq : K q with ⟨a, b⟩
      rw [hkq] at h9 hk
      rcases a with _ | _ | a
      · exact absurd rfl hk
      · obtain ⟨r, r1, cell, r2, r3⟩ := h9
        exact ho _ (Array.getElem?_eq_some_iff.mp r2).1
      · have h6 : H[ad G q]? = some (arrV (G.2.1 (a + 2)) b (fun j => ev G I L R (a + 2) q j)) := h9
        exact ho _ (Array.getElem?_eq_some_iff.mp h6).1
    · exact ⟨Nat.le_trans hF.1 hz, fun q q1 q2 => (ho q (Nat.lt_of_lt_of_le q1 hF.1)).trans (hF.2.1 q q1 q2)⟩
end B1
end
section
/-! ===== the rules of AW: catching, inherited methods, switches ===== -/
section B2
variable {S : aS} {C C' : aM} {d d' : Nat} {Q Q' : Option Value → aH → Prop} {X X' : String → aH → Prop} {k1 k2 j1 j2 pc np tgt n : Nat} {w : Int32} {ls ls' : List (Option Value)} {st st' st0 : List Value} {h : aH} {ins : Instr} {As : List Value}
/-- a handler's row takes E, those ahead of it don't: their classes' names, by the pool -/
def hTake (S : aS) (C : aM) (pc : Nat) (E : String) : List (Nat × Nat × Nat × Nat) → Nat → Prop
  | [], _ => False
  | r :: rs, hpc => (r.1 ≤ pc ∧ pc < r.2.1 ∧ r.2.2.2 ≠ 0) ∧ ∃ nm, inT (.classLink C.1.cls r.2.2.2 nm) ∧ ((inX (.castable E nm) ∧ r.2.2.1 = hpc) ∨ ((E, nm) ∈ S.2.2.2.2.2 ∧ hTake S C pc E rs hpc))
theorem hTake_split {S : aS} {C : aM} {pc hpc : Nat} {E : String} {l : List (Nat × Nat × Nat × Nat)} (h : hTake S C pc E l hpc) : ∃ pre x suf nm, l = pre ++ x :: suf ∧ (x.1 ≤ pc ∧ pc < x.2.1 ∧ x.2.2.2 ≠ 0) ∧ x.2.2.1 = hpc ∧ inT (.classLink C.1.cls x.2.2.2 nm) ∧ inX (.castable E nm) ∧ ∀ z ∈ pre, z.2.2.2 ≠ 0 ∧ ∃ nm, inT (.classLink C.1.cls z.2.2.2 nm) ∧ (E, nm) ∈ S.2.2.2.2.2 := by
  induction l with
  | nil => exact False.elim h
  | cons r rs ih =>
    obtain ⟨h0, nm, h1, h2⟩ := h
    rcases h2 with ⟨h2, h3⟩ | ⟨h2, h3⟩
    · exact ⟨[], r, rs, nm, rfl, h0, h3, h1, h2, fun z hz => by cases hz⟩
    · obtain ⟨pre, x, suf, nm', e, g1, g2, g3, g4, g5⟩ := ih h3
      refine ⟨r :: pre, x, suf, nm', by rw [e]; rfl, g1, g2, g3, g4, fun z hz => ?_⟩
      rcases List.mem_cons.mp hz with rfl | hz
      · exact ⟨h0.2.2, nm, h1, h2⟩
      · exact g5 z hz
def lforget : List (Option Value) → Nat → List (Option Value)
  | [], _ => []
  | _ :: r, 0 => none :: r
  | a :: r, 1 => kill a :: lforget r 0
  | a :: r, n + 2 => a :: lforget r (n + 1)
theorem lg_lforget {ls : List (Option Value)} {i j : Nat} {x : Value} (h : lg (lforget ls i) j = some x) : j ≠ i ∧ lg ls j = some x ∧ ¬ (j + 1 = i ∧ x.category = 2) := by
  induction ls generalizing i j with
  | nil => simp [lforget, lg] at h
  | cons a r ih =>
    rcases i with _ | _ | i
    · rcases j with _ | j
      · simp [lforget, lg] at h
      · exact ⟨by omega, h, by omega⟩
    · rcases j with _ | j
      · simp only [lforget, lg] at h
        obtain ⟨h1, h2⟩ := kill_some h
        exact ⟨by omega, h1, by omega⟩
      · simp only [lforget, lg] at h
        obtain ⟨h1, h2, h3⟩ := ih h
        exact ⟨by omega, h2, by omega⟩
    · rcases j with _ | j
      · exact ⟨by omega, h, by omega⟩
      · simp only [lforget, lg] at h
        obtain ⟨h1, h2, h3⟩ := ih h
        exact ⟨by omega, h2, fun z => h3 ⟨by omega, z.2⟩⟩
/-- a method called within a handler's reach; the handler begins with the storing of what it caught -/
theorem a_callVc {idx q : Nat} (hC : look C pc = some (.invokevirtual idx, np, tgt, w)) (hl : LK C.1.cls idx C') (hM : MOv C' n) (hs : Sp S C' d' j1 j2 (.ref q :: As) h Q' X') (hn : As.length = n) (h0 : st0 = As.reverse ++ .ref q :: st) (ho : cOk d d' j1 j2 k1 k2 st = true) (hq : rcv h q C'.1.cls)
    (kr : ∀ v h', Q' v h' → AW S C d Q X (k1 - j1) (k2 - j2) np ls (v.toList ++ st) h')
    (kx : ∀ E h', X' E h' → ∃ (hpc : Nat) (ins2 : Instr) (np2 tgt2 : Nat) (w2 : Int32) (i : Nat), hTake S C pc E C.2.2.2.2.1 hpc ∧ look C hpc = some (ins2, np2, tgt2, w2) ∧ stI ins2 = some (i, 1) ∧ i < C.2.2.1 ∧ AW S C d Q X (k1 - j1) (k2 - j2) np2 (lforget ls i) [] h') : AW S C d Q X k1 k2 pc ls st0 h := by
  intro p l e s m args below meth c H la locs cells slots mc ms G CC hS hL hR hF h1 h2
  obtain ⟨hd, rfl, -⟩ := okd CC.2.2.2.2.2.2.2.2.2 hC rfl
  obtain ⟨g0, g1, g2, g3⟩ := cOk_spec ho
  subst h0
  have tk : ∀ x, inT x → x.before args s = true := fun x hx => gT_ok hS _ (inT_gT hx)
  have hr := vx_runV (R := rmD d mc ms) (p := p) (l := l) (e := e) (s := s) (m := m) (args := args) (below := below) (meth := meth) (c := c) (H := H) (locs := locs) (cells := cells) (slots := slots) (rest := st.map (mv G)) (g := F0 m pc la ((As.reverse ++ .ref q :: st).map (mv G))) (Ts := gT) (As := As.map (mv G)) (b := ad G q) ⟨CC.1, CC.2.1, CC.2.2.2.2.1, CC.2.2.2.2.2.1, gT_ok hS⟩ (hs l G CC.2.2.2.2.2.2.2.1) ⟨cb_of (mc := mc) (ms := ms) hS hM.1 hl g0, gT_ok hS _ (inT_gT hM.2.1), gT_ok hS _ (inT_gT hM.2.2)⟩ ⟨PcM.blind, rcv_of hS hR hq, pc_of (As := .ref q :: As) hS hR hF⟩ rfl (by simpa using hn) hL.1 (by simp [mv]) (lv_room (by rw [cat_map]; exact g3)) hd ⟨by show cells + j1 ≤ mc; omega, by show slots + j2 ≤ ms; omega⟩
  refine go_run hr hF (fun v h' H' locs' q1 q2 q3 => ?_) (fun E h' qe ce H' locs' q1 q2 q3 q4 q5 q6 => ?_)
  · have K := kr v h' q1 p l e s m args below meth c H' la locs' (cells + j1) (slots + j2) mc ms G CC hS hL q2 q3 (by omega) (by omega)
    have e1 : (v.toList ++ st).map (mv G) = (Option.map (mv G) v).toList ++ st.map (mv G) := by cases v <;> simp
    rw [e1] at K
    exact K
  · obtain ⟨hpc, ins2, np2, tgt2, w2, i, t1, t2, t3, t4, t5⟩ := kx E h' q1
    obtain ⟨pre, x, suf, nm, e1, e2, e3, e4, e5, e6⟩ := hTake_split t1
    have htab : c.exceptionTable.toList = tableOf pre ++ (⟨x.1, x.2.1, x.2.2.1, x.2.2.2⟩ : ExceptionTableEntry) :: tableOf suf := by
      rw [CC.2.2.2.2.2.2.2.2.1, e1]
      simp [tableOf]
    refine vx_catch CC.2.2.2.2.2.1 (tableOf pre) _ (tableOf suf) htab (fun z hz => ?_) (by simp [covers, e2.1, e2.2.1]) e2.2.2 (tk _ e4) (hS.2.2.1 _ e5.1 e5.2 args) q4 q5 q6 ?_
    · obtain ⟨y, hy, rfl⟩ := List.mem_map.mp hz
      obtain ⟨f1, nm', f2, f3⟩ := e6 y hy
      exact Or.inr ⟨f1, nm', tk _ f2, hS.2.2.2.2.2.1 _ f3⟩
    · rw [show (⟨x.1, x.2.1, x.2.2.1, x.2.2.2⟩ : ExceptionTableEntry).handlerPc = hpc from e3]
      have K : ∀ la', HL G la' C.2.2.1 (lforget ls i) → W p l e (rmD d mc ms) s m args below meth c H' locs' (cells + j1) (slots + j2) (vx_MQ below (QcM G Q) (XcM G X) args s mc ms (aA G)) (F0 m np2 la' ([].map (mv G))) := fun la' hla => t5 p l e s m args below meth c H' la' locs' (cells + j1) (slots + j2) mc ms G CC hS hla q2 q3 (by omega) (by omega)
      have hO := CC.2.2.2.2.2.2.2.2.2
      have hh := hL.has
      unfold stI at t3
      have fin : ∀ (la' : Array Slot), lv_has la' C.2.2.1 ((i, .ref qe) :: (llO G 0 ls).filter (fun q => !(q.1 == i) && !(q.1 + 1 == i && q.2.category == 2))) → HL G la' C.2.2.1 (lforget ls i) := by
        intro la' hla
        refine ⟨hla.1, hla.2.1, fun j y hj => ?_⟩
        obtain ⟨r1, r2, r3⟩ := lg_lforget hj
        refine hla.2.2 (j, mv G y) (List.mem_cons_of_mem _ (List.mem_filter.mpr ⟨llO_mem.mpr ⟨j, y, r2, by simp⟩, ?_⟩))
        simp only [Bool.and_eq_true, Bool.not_eq_true', beq_eq_false_iff_ne, ne_eq, Bool.and_eq_false_iff, mv_cat]
        refine ⟨r1, ?_⟩
        by_cases z : j + 1 = i
        · exact Or.inr fun y => r3 ⟨z, y⟩
        · exact Or.inl z
      split at t3 <;> first | (cases t3; done) | (cases t3; obtain ⟨hd2, rfl, -⟩ := okd hO t2 rfl)
      · exact lv_astore CC.1 CC.2.1 hd2 hh t4 rfl (fun la' z => K la' (fin la' z))
      · exact lv_astore_n CC.1 CC.2.1 hd2 rfl hh t4 rfl (fun la' z => K la' (fin la' z))
/-- a method found by the receiver's class: inherited, or of a class below -/
theorem a_callU {idx q : Nat} {x : MethodName} {owner cn : String} (hC : look C pc = some (.invokevirtual idx, np, tgt, w)) (hl : ∀ z ∈ [Cond.methodLink C.1.cls idx x, .sameMethod x.cls owner x.name x.desc, .selects cn x C'.1, .instanceMethod C'.1], inT z) (hdc : ∀ (G : aG) (s : State), SW S G s → va_Decl s ⟨owner, x.name, x.desc⟩) (hM : MO C' n) (hx : owner ≠ "java/lang/invoke/MethodHandle" ∧ owner ≠ "java/lang/invoke/VarHandle" ∧ (parseMethodDescriptor x.desc).map (fun d => d.parameters.length) = some n) (hs : Sp S C' d' j1 j2 (.ref q :: As) h Q' X') (hn : As.length = n) (h0 : st0 = As.reverse ++ .ref q :: st) (ho : cOk d d' j1 j2 k1 k2 st = true) (hq : rcv h q cn) (hh : C.2.2.2.2.1 = [])
    (kr : ∀ v h', Q' v h' → AW S C d Q X (k1 - j1) (k2 - j2) np ls (v.toList ++ st) h') (kx : ∀ E h', X' E h' → X E h') : AW S C d Q X k1 k2 pc ls st0 h := by
  intro p l e s m args below meth c H la locs cells slots mc ms G CC hS hL hR hF h1 h2
  obtain ⟨hd, rfl, -⟩ := okd CC.2.2.2.2.2.2.2.2.2 hC rfl
  obtain ⟨g0, g1, g2, g3⟩ := cOk_spec ho
  subst h0
  have tk : ∀ x, inT x → x.before args s = true := fun x hx => gT_ok hS _ (inT_gT hx)
  have hml := hM.2.2.2.2
  have hc : Cond.code C'.1 C'.2.1 C'.2.2.1 C'.2.2.2.1 ∈ [mW C'] := by rw [mW_code hM.1]; exact List.mem_cons_self
  have cu : va_CU (rmD d mc ms) s args C.1.cls cn owner idx x C'.1 C'.2.1 C'.2.2.1 C'.2.2.2.1 [mW C'] (rmD d' j1 j2) j1 j2 n := by
    refine ⟨⟨rfl, rfl, by show d' + 998 + 1 ≤ d + 998; omega, ?_, pay_in (gT_ok (args := args) hS) (good_gT hM.ws), hc⟩, tk _ hM.2.1, tk _ hM.2.2.1, ⟨hx.1, hx.2.1⟩, fun sig hsig => ?_, tk _ (hl _ (by simp)), tk _ (hl _ (by simp)), hdc G s hS, tk _ (hl _ (by simp)), tk _ (hl _ (by simp))⟩
    · show 8 + (C'.2.2.1 + 11) + 80 * d' ≤ 80 * d
      omega
    · have h2 := hx.2.2
      rw [hsig] at h2
      exact (Option.some.inj h2).symm
  refine a_end CC hS hL hF h1 h2 g1 g2 hh (vx_runU (Ts := gT) (As := As.map (mv G)) (b := ad G q) ⟨CC.1, CC.2.1, CC.2.2.2.2.1, CC.2.2.2.2.2.1, gT_ok hS⟩ (hs l G CC.2.2.2.2.2.2.2.1) cu ⟨PcM.blind, rcv_of hS hR hq, pc_of (As := .ref q :: As) hS hR hF⟩ rfl (by simpa using hn) hL.1 (by simp [mv]) (lv_room (by rw [cat_map]; exact g3)) hd ⟨by show cells + j1 ≤ mc; omega, by show slots + j2 ≤ ms; omega⟩) kr kx
/-- a method of a constant object -/
theorem a_callK {idx q : Nat} (hC : look C pc = some (.invokevirtual idx, np, tgt, w)) (hl : LK C.1.cls idx C') (hM : MOv C' n) (hs : Sp S C' d' j1 j2 (.ref q :: As) h Q' X') (hn : As.length = n) (h0 : st0 = As.reverse ++ .ref q :: st) (ho : cOk d d' j1 j2 k1 k2 st = true) (hq : (q, C'.1.cls) ∈ S.2.1) (hh : C.2.2.2.2.1 = [])
    (kr : ∀ v h', Q' v h' → AW S C d Q X (k1 - j1) (k2 - j2) np ls (v.toList ++ st) h') (kx : ∀ E h', X' E h' → X E h') : AW S C d Q X k1 k2 pc ls st0 h := by
  intro p l e s m args below meth c H la locs cells slots mc ms G CC hS hL hR hF h1 h2
  obtain ⟨hd, rfl, -⟩ := okd CC.2.2.2.2.2.2.2.2.2 hC rfl
  obtain ⟨g0, g1, g2, g3⟩ := cOk_spec ho
  subst h0
  obtain ⟨cell, c1, c2, c3, c4⟩ := hS.2.2.2.1.2.2.1 _ hq
  have hrc : ∃ cellB : Cell, H[ad G q]? = some cellB ∧ cellB.vm.isStatics = false ∧ s.vm.findClass C'.1.cls = some cellB.cls := by
    refine ⟨cell, ?_, c2, c3⟩
    rw [hF.2.1 _ (Array.getElem?_eq_some_iff.mp c1).1 c4]
    exact c1
  refine a_end CC hS hL hF h1 h2 g1 g2 hh (vx_runV (Ts := gT) (As := As.map (mv G)) (b := ad G q) ⟨CC.1, CC.2.1, CC.2.2.2.2.1, CC.2.2.2.2.2.1, gT_ok hS⟩ (hs l G CC.2.2.2.2.2.2.2.1) ⟨cb_of hS hM.1 hl g0, gT_ok hS _ (inT_gT hM.2.1), gT_ok hS _ (inT_gT hM.2.2)⟩ ⟨PcM.blind, hrc, pc_of (As := .ref q :: As) hS hR hF⟩ rfl (by simpa using hn) hL.1 (by simp [mv]) (lv_room (by rw [cat_map]; exact g3)) hd ⟨by show cells + j1 ≤ mc; omega, by show slots + j2 ≤ ms; omega⟩) kr kx
/-! switches: the target by a program over the number -/
def swT (pc : Nat) (dflt lo hi : Int) (offs : Array Int) (x : Int) : Option Nat := if x < lo ∨ hi < x then some ((pc : Int) + dflt).toNat else (offs[(x - lo).toNat]?).map fun o => ((pc : Int) + o).toNat
theorem a_tsw {dflt lo hi : Int} {offs : Array Int} {x : Int32} {tg : Nat} (hC : look C pc = some (.tableswitch dflt lo hi offs, np, tgt, w)) (hT : swT pc dflt lo hi offs x.toInt = some tg) (hpos : 0 ≤ (pc : Int) + dflt ∧ ∀ o ∈ offs, 0 ≤ (pc : Int) + o) (kk : AW S C d Q X k1 k2 tg ls st h) : AW S C d Q X k1 k2 pc ls (.int x :: st) h := by
  intro p l e s m args below meth c H la locs cells slots mc ms G CC hS hL hR hF h1 h2
  have hd := (CC.2.2.2.2.2.2.2.2.2 _ _ hC).2.1
  have K := kk p l e s m args below meth c H la locs cells slots mc ms G CC hS hL hR hF h1 h2
  unfold swT at hT
  by_cases hx : x.toInt < lo ∨ hi < x.toInt
  · rw [if_pos hx] at hT
    cases hT
    exact lv_tableOut CC.1 CC.2.1 hd hx (by have := hpos.1; omega) K
  · rw [if_neg hx] at hT
    cases ho : offs[(x.toInt - lo).toNat]? with
    | none => rw [ho] at hT; cases hT
    | some o =>
      rw [ho] at hT
      cases hT
      exact lv_tableIn CC.1 CC.2.1 hd (fun z => hx (Or.inl z)) (fun z => hx (Or.inr z)) ho (by have h7 := hpos.2 o (Array.mem_of_getElem? ho); show (pc : Int) + o = (((pc : Int) + o).toNat : Int); omega) K
theorem a_lsw {dflt : Int} {ps : Array (Int × Int)} {x : Int32} {tg : Nat} (hC : look C pc = some (.lookupswitch dflt ps, np, tgt, w)) (hp : (ps.toList.zip (ps.toList.drop 1)).all (fun (a, next) => a.1 < next.1) = true) (hT : (pc : Int) + Op.lookupswitch.offset ps.toList dflt x.toInt = (tg : Int)) (kk : AW S C d Q X k1 k2 tg ls st h) : AW S C d Q X k1 k2 pc ls (.int x :: st) h := by
  intro p l e s m args below meth c H la locs cells slots mc ms G CC hS hL hR hF h1 h2
  have hd := (CC.2.2.2.2.2.2.2.2.2 _ _ hC).2.1
  exact lv_lookup CC.1 CC.2.1 hd hp rfl hT (kk p l e s m args below meth c H la locs cells slots mc ms G CC hS hL hR hF h1 h2)
end B2
end
