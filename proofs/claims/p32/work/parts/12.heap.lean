/-! ===== the rules of AW: the heap ===== -/
theorem fv_int {G : aG} {I : Nat → Nat → Int32} {R : Nat → Nat → Nat} {p k : Nat} {ty : FieldType} (h : isIntTy ty = true) : fv G I R p ty k = .int (I p k) := by
  cases ty <;> first | rfl | (cases h; done)
theorem fv_ref {G : aG} {I : Nat → Nat → Int32} {R : Nat → Nat → Nat} {p k : Nat} {ty : FieldType} (h : isRefTy ty = true) : fv G I R p ty k = mv G (rv (R p k)) := by
  cases ty <;> first | rfl | (cases h; done)
theorem Rep.ob {G : aG} {h : aH} {H : Heap} {p ci : Nat} (hR : Rep G h H) (hK : h.1 p = (1, ci)) : obA G h.2.1 h.2.2.2.1 H p ci := by
  have q := hR.1 p
  unfold cellA at q
  rw [hK] at q
  exact q
theorem Rep.ar {G : aG} {h : aH} {H : Heap} {p t n : Nat} (hR : Rep G h H) (hK : h.1 p = (t + 2, n)) : arA G h.2.1 h.2.2.1 h.2.2.2.1 H p (t + 2) n := by
  have q := hR.1 p
  unfold cellA at q
  rw [hK] at q
  exact q
theorem cellA_congr {G : aG} {K : Nat → Nat × Nat} {I I' : Nat → Nat → Int32} {L L' : Nat → Nat → Int64} {R R' : Nat → Nat → Nat} {t t' : Nat} {H H' : Heap} {q : Nat} (hI : I' q = I q) (hL : L' q = L q) (hR : R' q = R q) (hH : (K q).1 ≠ 0 → H'[ad G q]? = H[ad G q]?) (h : cellA G (K, I, L, R, t) H q) : cellA G (K, I', L', R', t') H' q := by
  unfold cellA at h ⊢
  dsimp only at h ⊢
  rcases hk : K q with ⟨a, b⟩
  rw [hk] at h hH
  rcases a with _ | _ | a
  · trivial
  · obtain ⟨r, h1, cell, h2, h3, h4, h5⟩ := h
    refine ⟨r, h1, cell, (hH (by simp)).trans h2, h3, h4, fun k hk => ?_⟩
    rw [h5 k hk]
    cases r.2 k <;> simp [fv, hI, hR]
  · have e : (fun j => ev G I' L' R' (a + 2) q j) = fun j => ev G I L R (a + 2) q j := by
      funext j
      unfold ev
      rw [hI, hL, hR]
    show H'[ad G q]? = some (arrV _ _ _)
    rw [e, hH (by simp)]
    exact h
theorem ad_inj {G : aG} {p q : Nat} (hp : 200 ≤ p) (hq : 200 ≤ q) (h : ad G p = ad G q) : p = q := by
  rw [ad_dyn hp, ad_dyn hq] at h
  omega
theorem aA_ad {G : aG} {p : Nat} (hp : 200 ≤ p) : aA G (ad G p) := by
  rw [ad_dyn hp]
  exact Nat.le_add_right _ _
/-- one place is written -/
theorem Rep.set {G : aG} {K : Nat → Nat × Nat} {I I' : Nat → Nat → Int32} {L L' : Nat → Nat → Int64} {R R' : Nat → Nat → Nat} {t : Nat} {H H' : Heap} {p : Nat} (hR : Rep G (K, I, L, R, t) H) (hp : 200 ≤ p) (hI : ∀ q, q ≠ p → I' q = I q) (hL : ∀ q, q ≠ p → L' q = L q) (hRR : ∀ q, q ≠ p → R' q = R q) (hz : H'.size = H.size) (hH : ∀ q : Nat, q ≠ ad G p → H'[q]? = H[q]?) (h : cellA G (K, I', L', R', t) H' p) : Rep G (K, I', L', R', t) H' := by
  obtain ⟨h1, h2, h3, h4⟩ := hR
  refine ⟨fun q => ?_, h2, fun z => by rw [hz]; exact h3 z, by rw [hz]; exact h4⟩
  by_cases hq : q = p
  · subst hq
    exact h
  · exact cellA_congr (hI q hq) (hL q hq) (hRR q hq) (fun hk => hH _ fun e => hq (ad_inj (h2 q hk) hp e)) (h1 q)
section A6
variable {S : aS} {C : aM} {d : Nat} {Q : Option Value → aH → Prop} {X : String → aH → Prop} {k1 k2 pc np tgt : Nat} {w : Int32} {ls ls' : List (Option Value)} {st st' : List Value} {h : aH} {ins : Instr}
variable {K : Nat → Nat × Nat} {I : Nat → Nat → Int32} {L : Nat → Nat → Int64} {R : Nat → Nat → Nat} {t : Nat}
/-- more may be made -/
theorem a_room {j1 j2 : Nat} (h1 : j1 ≤ k1) (h2 : j2 ≤ k2) (k : AW S C d Q X j1 j2 pc ls st h) : AW S C d Q X k1 k2 pc ls st h := by
  intro p l e s m args below meth c H la locs cells slots mc ms G CC hS hL hR hF g1 g2
  exact k p l e s m args below meth c H la locs cells slots mc ms G CC hS hL hR hF (by omega) (by omega)
/-- what the tables say of a field -/
theorem lf_use {own : String} {idx ci k : Nat} {r : vw_C × (Nat → FieldType)} {G : aG} {s : State} {args : Array Value} (hf : LF own idx ci k r) (hS : SW S G s) :
    ∃ (ref : String) (cf : ClassId) (kf : Class) (fi : Nat) (f : Field), (Cond.fieldLink own idx ref (r.1.2.1 k).2.1 (r.1.2.1 k).2.2.1).before args s = true ∧ s.fieldFound? ref (r.1.2.1 k).2.1 (r.1.2.1 k).2.2.1 = some (cf, kf, fi, f) ∧ s.fieldFound? (r.1.2.1 k).1 (r.1.2.1 k).2.1 (r.1.2.1 k).2.2.1 = some (cf, kf, fi, f) ∧ f.isStatic = false ∧ f.slot = G.1.2 ci k := by
  obtain ⟨hc, ⟨hws, -, -⟩, hk, ref, hl, hsame⟩ := hf
  obtain ⟨hSl, hfc, kC, hkC, hkind⟩ := hS.1 ci r hc
  obtain ⟨cf, kf, fi, f, hi, hsl⟩ := hSl k hk
  have hts : ∀ w ∈ u_ws r.1.1 r.1.2.1 r.1.2.2, w.before args s = true := fun w hw => hS.2.2.1 w (hws w hw).1 (by rw [(hws w hw).2]; rfl) args
  refine ⟨ref, cf, kf, fi, f, hS.2.2.1 _ hl rfl args, ?_, hi, (u_facts hfc hkC (u_lays hts (fun w hw => hw) hk) hi).1, hsl⟩
  rcases hsame with rfl | hs
  · exact hi
  · exact u_same (hS.2.2.1 _ hs rfl args) _ hi
theorem a_get {idx ci k p : Nat} {r : vw_C × (Nat → FieldType)} {v : Value} (hC : look C pc = some (.getfield idx, np, tgt, w)) (hf : LF C.1.cls idx ci k r) (hK : h.1 p = (1, ci)) (hv : ∀ G : aG, fv G h.2.1 h.2.2.2.1 p (r.2 k) k = mv G v) (kk : AW S C d Q X k1 k2 np ls (v :: st) h) : AW S C d Q X k1 k2 pc ls (.ref p :: st) h := by
  intro p' l e s m args below meth c H la locs cells slots mc ms G CC hS hL hR hF h1 h2
  obtain ⟨hd, rfl, -⟩ := okd CC.2.2.2.2.2.2.2.2.2 hC rfl
  obtain ⟨ref, cf, kf, fi, f, hl, hi, -, hst, hsl⟩ := lf_use (args := args) hf hS
  obtain ⟨r', hr', cell, q1, q2, q3, q4⟩ := hR.ob hK
  cases hf.1.symm.trans hr'
  refine W.getf CC.1 CC.2.1 CC.2.2.2.2.2.1 hl hi hst q1 (by rw [q3]; exact fun z => by cases z) (v := mv G v) (by rw [hsl, q4 k hf.2.2.1, hv]) rfl rfl hd ?_
  exact kk p' l e s m args below meth c H la locs cells slots mc ms G CC hS hL hR hF h1 h2
theorem a_geti {idx ci k p : Nat} (hC : look C pc = some (.getfield idx, np, tgt, w)) (hf : LFi C.1.cls idx ci k) (hK : K p = (1, ci)) (kk : AW S C d Q X k1 k2 np ls (.int (I p k) :: st) (K, I, L, R, t)) : AW S C d Q X k1 k2 pc ls (.ref p :: st) (K, I, L, R, t) := by
  obtain ⟨r, hf, ht⟩ := hf
  exact a_get hC hf hK (fun G => fv_int ht) kk
theorem a_getr {idx ci k p : Nat} (hC : look C pc = some (.getfield idx, np, tgt, w)) (hf : LFr C.1.cls idx ci k) (hK : K p = (1, ci)) (kk : AW S C d Q X k1 k2 np ls (rv (R p k) :: st) (K, I, L, R, t)) : AW S C d Q X k1 k2 pc ls (.ref p :: st) (K, I, L, R, t) := by
  obtain ⟨r, hf, ht⟩ := hf
  exact a_get hC hf hK (fun G => fv_ref ht) kk
theorem a_getq {idx ci k p q : Nat} (hC : look C pc = some (.getfield idx, np, tgt, w)) (hf : LFr C.1.cls idx ci k) (hK : K p = (1, ci)) (hq : R p k = q + 1) (kk : AW S C d Q X k1 k2 np ls (.ref q :: st) (K, I, L, R, t)) : AW S C d Q X k1 k2 pc ls (.ref p :: st) (K, I, L, R, t) := by
  refine a_getr hC hf hK ?_
  rw [hq]
  exact kk
/-- a field is written: not final, or in the class's own constructor -/
theorem a_put {idx ci k p : Nat} {r : vw_C × (Nat → FieldType)} {v : Value} {I' : Nat → Nat → Int32} {R' : Nat → Nat → Nat} (hC : look C pc = some (.putfield idx, np, tgt, w)) (hf : LF C.1.cls idx ci k r) (hfin : (r.1.2.1 k).2.2.2 = false ∨ ((r.1.2.1 k).2.2.2 = true ∧ C.1.name = "<init>" ∧ (r.1.2.1 k).1 = C.1.cls)) (hK : K p = (1, ci)) (hn : ∀ G : aG, narrow (r.2 k) (mv G v) = mv G v) (hfit : ∀ G : aG, fits (r.2 k) (mv G v) = true)
    (hI : ∀ q, q ≠ p → I' q = I q) (hR' : ∀ q, q ≠ p → R' q = R q) (hj : ∀ j, j ≠ k → I' p j = I p j ∧ R' p j = R p j) (hv : ∀ G : aG, fv G I' R' p (r.2 k) k = mv G v)
    (kk : AW S C d Q X k1 k2 np ls st (K, I', L, R', t)) : AW S C d Q X k1 k2 pc ls (v :: .ref p :: st) (K, I, L, R, t) := by
  intro p' l e s m args below meth c H la locs cells slots mc ms G CC hS hL hR hF h1 h2
  obtain ⟨hd, rfl, -⟩ := okd CC.2.2.2.2.2.2.2.2.2 hC rfl
  obtain ⟨ref, cf, kf, fi, f, hl, hi, hi0, hst, hsl⟩ := lf_use (args := args) hf hS
  obtain ⟨r', hr', cell, q1, q2, q3, q4⟩ := hR.ob hK
  cases hf.1.symm.trans hr'
  have hp : 200 ≤ p := hR.2.1 p (by show (K p).1 ≠ 0; rw [hK]; simp)
  obtain ⟨hSl, hfc, kC, hkC, hkind⟩ := hS.1 ci r hf.1
  have hts : ∀ w ∈ u_ws r.1.1 r.1.2.1 r.1.2.2, w.before args s = true := fun w hw => hS.2.2.1 w (hf.2.1.1 w hw).1 (by rw [(hf.2.1.1 w hw).2]; rfl) args
  have hlay := u_lays hts (fun w hw => hw) hf.2.2.1
  have hd0 := hf.2.1.2.2 k hf.2.2.1
  have hap : ∀ a b, a < r.1.2.2 → b < r.1.2.2 → a ≠ b → G.1.2 ci a ≠ G.1.2 ci b := by
    intro a b ha hb hne
    obtain ⟨_, _, _, fa, hia, ea⟩ := hSl a ha
    obtain ⟨_, _, _, fb, hib, eb⟩ := hSl b hb
    rw [← ea, ← eb]
    refine u_apart (u_lays hts (fun w hw => hw) ha) (u_lays hts (fun w hw => hw) hb) hia hib ?_
    rw [(State.fieldFound?_type hia (hf.2.1.2.2 a ha)).1, (State.fieldFound?_type hib (hf.2.1.2.2 b hb)).1]
    exact hf.2.1.2.1 a ha b hb hne
  have fin : ∀ H' : Heap, H'[ad G p]? = some (cell.setSlot f.slot (mv G v)) → H'.size = H.size → (∀ q, q ≠ ad G p → H'[q]? = H[q]?) → Rep G (K, I', L, R', t) H' ∧ va_S (aA G) s.heap H' (locs ++ [⟨ad G p, f.slot⟩]) := by
    intro H' e1 e2 e3
    refine ⟨Rep.set hR hp hI (fun _ _ => rfl) hR' e2 e3 ?_, hF.put e2 e3 (aA_ad hp)⟩
    show cellA G (K, I', L, R', t) H' p
    unfold cellA
    dsimp only
    rw [hK]
    refine ⟨r, hf.1, _, e1, q2, q3, fun j hjn => ?_⟩
    rw [hsl]
    by_cases hjk : j = k
    · subst hjk
      rw [Cell.slots_setSlot_self _ (k2_hasslot (q4 j hjn)), hv]
    · rw [slot_ne _ _ (hap k j hf.2.2.1 hjn (Ne.symm hjk)), q4 j hjn]
      obtain ⟨z1, z2⟩ := hj j hjk
      show some (fv G I R p (r.2 j) j) = some (fv G I' R' p (r.2 j) j)
      cases r.2 j <;> simp [fv, z1, z2]
  have hlt : f.slot < cell.slots.size := by rw [hsl]; exact k2_hasslot (q4 k hf.2.2.1)
  have done : ∀ H' : Heap, H'[ad G p]? = some (cell.setSlot f.slot (mv G v)) → H'.size = H.size → (∀ q, q ≠ ad G p → H'[q]? = H[q]?) → W p' l e (rmD d mc ms) s m args below meth c H' (locs ++ [⟨ad G p, f.slot⟩]) cells slots (vx_MQ below (QcM G Q) (XcM G X) args s mc ms (aA G)) (F0 m (pc + 3) la (st.map (mv G))) := by
    intro H' e1 e2 e3
    obtain ⟨z1, z2⟩ := fin H' e1 e2 e3
    exact kk p' l e s m args below meth c H' la _ cells slots mc ms G CC hS hL z1 z2 h1 h2
  rcases hfin with hfin | ⟨hfin, hin, hdecl⟩
  · have hlay' := hts _ (u_in_lay hf.2.2.1)
    unfold u_lay at hlay'
    rw [if_neg (by rw [hfin]; decide)] at hlay'
    have h6 := u_store hfc hkC hkind hlay' hi0 hd0 (hn G) (hfit G)
    exact W.putK CC.1 CC.2.1 (f := f) ⟨CC.2.2.2.2.2.1, hl, ⟨_, _, _, hi⟩, hst⟩ (by rw [q2]; exact h6) q1 q3 hlt rfl rfl hd done
  · have hcf : m.cls = cf := by
      have h8 := hts _ (u_in_lay hf.2.2.1)
      unfold u_lay at h8
      rw [if_pos hfin] at h8
      obtain ⟨_, _, c', _, _, _, -, -, hf', -, -, -, hown2, -⟩ := Cond.laysFinal_spec h8
      have e1 : c' = cf := by have := hi0.symm.trans hf'; simp at this; exact this.1.symm
      rw [hdecl] at hown2
      rw [← e1]; exact Option.some.inj (CC.2.2.2.2.2.1.symm.trans hown2)
    exact W.putFinK CC.1 CC.2.1 CC.2.2.2.2.2.1 hl hi hst hcf (CC.2.2.2.2.2.2.1.trans hin) (by rw [q2]; exact u_fits hfc hkC hkind hlay hi0 hd0 (hn G) (hfit G)) q1 q3 hlt rfl rfl hd done
end A6
