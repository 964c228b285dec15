/-! ===== the rules of AW: catching, inherited methods, switches ===== -/
section B2
variable {S : aS} {C C' : aM} {d d' : Nat} {Q Q' : Option Value → aH → Prop} {X X' : String → aH → Prop} {k1 k2 j1 j2 pc np tgt n : Nat} {w : Int32} {ls ls' : List (Option Value)} {st st' st0 : List Value} {h : aH} {ins : Instr} {As : List Value}
/-- a handler's row takes E, those ahead of it don't: their classes' names, by the pool -/
def hTake (S : aS) (C : aM) (pc : Nat) (E : String) : List (Nat × Nat × Nat × Nat) → Nat → Prop
  | [], _ => False
  | r :: rs, hpc => (r.1 ≤ pc ∧ pc < r.2.1 ∧ r.2.2.2 ≠ 0) ∧ ∃ nm, inT (.classLink C.1.cls r.2.2.2 nm) ∧ ((inX (.castable E nm) ∧ r.2.2.1 = hpc) ∨ ((E, nm) ∈ S.2.2.2.2.2 ∧ hTake S C pc E rs hpc))
theorem hTake_split {S : aS} {C : aM} {pc hpc : Nat} {E : String} {l : List (Nat × Nat × Nat × Nat)} (h : hTake S C pc E l hpc) : ∃ pre x suf nm, l = pre ++ x :: suf ∧ (x.1 ≤ pc ∧ pc < x.2.1 ∧ x.2.2.2 ≠ 0) ∧ x.2.2.1 = hpc ∧ inT (.classLink C.1.cls x.2.2.2 nm) ∧ inX (.castable E nm) ∧ ∀ z ∈ pre, z.2.2.2 ≠ 0 ∧ ∃ nm, inT (.classLink C.1.cls z.2.2.2 nm) ∧ (E, nm) ∈ S.2.2.2.2.2 := by
  induction l with
  | nil => exact False.elim h
  | cons r rs ih =>
    obtain ⟨h0, nm, h1, h2⟩ := h
    rcases h2 with ⟨h2, h3⟩ | ⟨h2, h3⟩
    · exact ⟨[], r, rs, nm, rfl, h0, h3, h1, h2, fun z hz => by cases hz⟩
    · obtain ⟨pre, x, suf, nm', e, g1, g2, g3, g4, g5⟩ := ih h3
      refine ⟨r :: pre, x, suf, nm', by rw [e]; rfl, g1, g2, g3, g4, fun z hz => ?_⟩
      rcases List.mem_cons.mp hz with rfl | hz
      · exact ⟨h0.2.2, nm, h1, h2⟩
      · exact g5 z hz
def lforget : List (Option Value) → Nat → List (Option Value)
  | [], _ => []
  | _ :: r, 0 => none :: r
  | a :: r, 1 => kill a :: lforget r 0
  | a :: r, n + 2 => a :: lforget r (n + 1)
theorem lg_lforget {ls : List (Option Value)} {i j : Nat} {x : Value} (h : lg (lforget ls i) j = some x) : j ≠ i ∧ lg ls j = some x ∧ ¬ (j + 1 = i ∧ x.category = 2) := by
  induction ls generalizing i j with
  | nil => simp [lforget, lg] at h
  | cons a r ih =>
    rcases i with _ | _ | i
    · rcases j with _ | j
      · simp [lforget, lg] at h
      · exact ⟨by omega, h, by omega⟩
    · rcases j with _ | j
      · simp only [lforget, lg] at h
        obtain ⟨h1, h2⟩ := kill_some h
        exact ⟨by omega, h1, by omega⟩
      · simp only [lforget, lg] at h
        obtain ⟨h1, h2, h3⟩ := ih h
        exact ⟨by omega, h2, by omega⟩
    · rcases j with _ | j
      · exact ⟨by omega, h, by omega⟩
      · simp only [lforget, lg] at h
        obtain ⟨h1, h2, h3⟩ := ih h
        exact ⟨by omega, h2, fun z => h3 ⟨by omega, z.2⟩⟩
/-- a method called within a handler's reach; the handler begins with the storing of what it caught -/
theorem a_callVc {idx q : Nat} (hC : look C pc = some (.invokevirtual idx, np, tgt, w)) (hl : LK C.1.cls idx C') (hM : MOv C' n) (hs : Sp S C' d' j1 j2 (.ref q :: As) h Q' X') (hn : As.length = n) (h0 : st0 = As.reverse ++ .ref q :: st) (ho : cOk d d' j1 j2 k1 k2 st = true) (hq : rcv h q C'.1.cls)
    (kr : ∀ v h', Q' v h' → AW S C d Q X (k1 - j1) (k2 - j2) np ls (v.toList ++ st) h')
    (kx : ∀ E h', X' E h' → ∃ (hpc : Nat) (ins2 : Instr) (np2 tgt2 : Nat) (w2 : Int32) (i : Nat), hTake S C pc E C.2.2.2.2.1 hpc ∧ look C hpc = some (ins2, np2, tgt2, w2) ∧ stI ins2 = some (i, 1) ∧ i < C.2.2.1 ∧ AW S C d Q X (k1 - j1) (k2 - j2) np2 (lforget ls i) [] h') : AW S C d Q X k1 k2 pc ls st0 h := by
  intro p l e s m args below meth c H la locs cells slots mc ms G CC hS hL hR hF h1 h2
  obtain ⟨hd, rfl, -⟩ := okd CC.2.2.2.2.2.2.2.2.2 hC rfl
  obtain ⟨g0, g1, g2, g3⟩ := cOk_spec ho
  subst h0
  have tk : ∀ x, inT x → x.before args s = true := fun x hx => gT_ok hS _ (inT_gT hx)
  have hr := vx_runV (R := rmD d mc ms) (p := p) (l := l) (e := e) (s := s) (m := m) (args := args) (below := below) (meth := meth) (c := c) (H := H) (locs := locs) (cells := cells) (slots := slots) (rest := st.map (mv G)) (g := F0 m pc la ((As.reverse ++ .ref q :: st).map (mv G))) (Ts := gT) (As := As.map (mv G)) (b := ad G q) ⟨CC.1, CC.2.1, CC.2.2.2.2.1, CC.2.2.2.2.2.1, gT_ok hS⟩ (hs l G CC.2.2.2.2.2.2.2.1) ⟨cb_of (mc := mc) (ms := ms) hS hM.1 hl g0, gT_ok hS _ (inT_gT hM.2.1), gT_ok hS _ (inT_gT hM.2.2)⟩ ⟨PcM.blind, rcv_of hS hR hq, pc_of (As := .ref q :: As) hS hR hF⟩ rfl (by simpa using hn) hL.1 (by simp [mv]) (lv_room (by rw [cat_map]; exact g3)) hd ⟨by show cells + j1 ≤ mc; omega, by show slots + j2 ≤ ms; omega⟩
  refine go_run hr hF (fun v h' H' locs' q1 q2 q3 => ?_) (fun E h' qe ce H' locs' q1 q2 q3 q4 q5 q6 => ?_)
  · have K := kr v h' q1 p l e s m args below meth c H' la locs' (cells + j1) (slots + j2) mc ms G CC hS hL q2 q3 (by omega) (by omega)
    have e1 : (v.toList ++ st).map (mv G) = (Option.map (mv G) v).toList ++ st.map (mv G) := by cases v <;> simp
    rw [e1] at K
    exact K
  · obtain ⟨hpc, ins2, np2, tgt2, w2, i, t1, t2, t3, t4, t5⟩ := kx E h' q1
    obtain ⟨pre, x, suf, nm, e1, e2, e3, e4, e5, e6⟩ := hTake_split t1
    have htab : c.exceptionTable.toList = tableOf pre ++ (⟨x.1, x.2.1, x.2.2.1, x.2.2.2⟩ : ExceptionTableEntry) :: tableOf suf := by
      rw [CC.2.2.2.2.2.2.2.2.1, e1]
      simp [tableOf]
    refine vx_catch CC.2.2.2.2.2.1 (tableOf pre) _ (tableOf suf) htab (fun z hz => ?_) (by simp [covers, e2.1, e2.2.1]) e2.2.2 (tk _ e4) (hS.2.2.1 _ e5.1 e5.2 args) q4 q5 q6 ?_
    · obtain ⟨y, hy, rfl⟩ := List.mem_map.mp hz
      obtain ⟨f1, nm', f2, f3⟩ := e6 y hy
      exact Or.inr ⟨f1, nm', tk _ f2, hS.2.2.2.2.2.1 _ f3⟩
    · rw [show (⟨x.1, x.2.1, x.2.2.1, x.2.2.2⟩ : ExceptionTableEntry).handlerPc = hpc from e3]
      have K : ∀ la', HL G la' C.2.2.1 (lforget ls i) → W p l e (rmD d mc ms) s m args below meth c H' locs' (cells + j1) (slots + j2) (vx_MQ below (QcM G Q) (XcM G X) args s mc ms (aA G)) (F0 m np2 la' ([].map (mv G))) := fun la' hla => t5 p l e s m args below meth c H' la' locs' (cells + j1) (slots + j2) mc ms G CC hS hla q2 q3 (by omega) (by omega)
      have hO := CC.2.2.2.2.2.2.2.2.2
      have hh := hL.has
      unfold stI at t3
      have fin : ∀ (la' : Array Slot), lv_has la' C.2.2.1 ((i, .ref qe) :: (llO G 0 ls).filter (fun q => !(q.1 == i) && !(q.1 + 1 == i && q.2.category == 2))) → HL G la' C.2.2.1 (lforget ls i) := by
        intro la' hla
        refine ⟨hla.1, hla.2.1, fun j y hj => ?_⟩
        obtain ⟨r1, r2, r3⟩ := lg_lforget hj
        refine hla.2.2 (j, mv G y) (List.mem_cons_of_mem _ (List.mem_filter.mpr ⟨llO_mem.mpr ⟨j, y, r2, by simp⟩, ?_⟩))
        simp only [Bool.and_eq_true, Bool.not_eq_true', beq_eq_false_iff_ne, ne_eq, Bool.and_eq_false_iff, mv_cat]
        refine ⟨r1, ?_⟩
        by_cases z : j + 1 = i
        · exact Or.inr fun y => r3 ⟨z, y⟩
        · exact Or.inl z
      split at t3 <;> first | (cases t3; done) | (cases t3; obtain ⟨hd2, rfl, -⟩ := okd hO t2 rfl)
      · exact lv_astore CC.1 CC.2.1 hd2 hh t4 rfl (fun la' z => K la' (fin la' z))
      · exact lv_astore_n CC.1 CC.2.1 hd2 rfl hh t4 rfl (fun la' z => K la' (fin la' z))
/-- a method found by the receiver's class: inherited, or of a class below -/
theorem a_callU {idx q : Nat} {x : MethodName} {owner cn : String} (hC : look C pc = some (.invokevirtual idx, np, tgt, w)) (hl : ∀ z ∈ [Cond.methodLink C.1.cls idx x, .sameMethod x.cls owner x.name x.desc, .selects cn x C'.1, .instanceMethod C'.1], inT z) (hdc : ∀ (G : aG) (s : State), SW S G s → va_Decl s ⟨owner, x.name, x.desc⟩) (hM : MO C' n) (hx : owner ≠ "java/lang/invoke/MethodHandle" ∧ owner ≠ "java/lang/invoke/VarHandle" ∧ (parseMethodDescriptor x.desc).map (fun d => d.parameters.length) = some n) (hs : Sp S C' d' j1 j2 (.ref q :: As) h Q' X') (hn : As.length = n) (h0 : st0 = As.reverse ++ .ref q :: st) (ho : cOk d d' j1 j2 k1 k2 st = true) (hq : rcv h q cn) (hh : C.2.2.2.2.1 = [])
    (kr : ∀ v h', Q' v h' → AW S C d Q X (k1 - j1) (k2 - j2) np ls (v.toList ++ st) h') (kx : ∀ E h', X' E h' → X E h') : AW S C d Q X k1 k2 pc ls st0 h := by
  intro p l e s m args below meth c H la locs cells slots mc ms G CC hS hL hR hF h1 h2
  obtain ⟨hd, rfl, -⟩ := okd CC.2.2.2.2.2.2.2.2.2 hC rfl
  obtain ⟨g0, g1, g2, g3⟩ := cOk_spec ho
  subst h0
  have tk : ∀ x, inT x → x.before args s = true := fun x hx => gT_ok hS _ (inT_gT hx)
  have hml := hM.2.2.2.2
  have hc : Cond.code C'.1 C'.2.1 C'.2.2.1 C'.2.2.2.1 ∈ [mW C'] := by rw [mW_code hM.1]; exact List.mem_cons_self
  have cu : va_CU (rmD d mc ms) s args C.1.cls cn owner idx x C'.1 C'.2.1 C'.2.2.1 C'.2.2.2.1 [mW C'] (rmD d' j1 j2) j1 j2 n := by
    refine ⟨⟨rfl, rfl, by show d' + 998 + 1 ≤ d + 998; omega, ?_, pay_in (gT_ok (args := args) hS) (good_gT hM.ws), hc⟩, tk _ hM.2.1, tk _ hM.2.2.1, ⟨hx.1, hx.2.1⟩, fun sig hsig => ?_, tk _ (hl _ (by simp)), tk _ (hl _ (by simp)), hdc G s hS, tk _ (hl _ (by simp)), tk _ (hl _ (by simp))⟩
    · show 8 + (C'.2.2.1 + 11) + 80 * d' ≤ 80 * d
      omega
    · have h2 := hx.2.2
      rw [hsig] at h2
      exact (Option.some.inj h2).symm
  refine a_end CC hS hL hF h1 h2 g1 g2 hh (vx_runU (Ts := gT) (As := As.map (mv G)) (b := ad G q) ⟨CC.1, CC.2.1, CC.2.2.2.2.1, CC.2.2.2.2.2.1, gT_ok hS⟩ (hs l G CC.2.2.2.2.2.2.2.1) cu ⟨PcM.blind, rcv_of hS hR hq, pc_of (As := .ref q :: As) hS hR hF⟩ rfl (by simpa using hn) hL.1 (by simp [mv]) (lv_room (by rw [cat_map]; exact g3)) hd ⟨by show cells + j1 ≤ mc; omega, by show slots + j2 ≤ ms; omega⟩) kr kx
/-- a method of a constant object -/
theorem a_callK {idx q : Nat} (hC : look C pc = some (.invokevirtual idx, np, tgt, w)) (hl : LK C.1.cls idx C') (hM : MOv C' n) (hs : Sp S C' d' j1 j2 (.ref q :: As) h Q' X') (hn : As.length = n) (h0 : st0 = As.reverse ++ .ref q :: st) (ho : cOk d d' j1 j2 k1 k2 st = true) (hq : (q, C'.1.cls) ∈ S.2.1) (hh : C.2.2.2.2.1 = [])
    (kr : ∀ v h', Q' v h' → AW S C d Q X (k1 - j1) (k2 - j2) np ls (v.toList ++ st) h') (kx : ∀ E h', X' E h' → X E h') : AW S C d Q X k1 k2 pc ls st0 h := by
  intro p l e s m args below meth c H la locs cells slots mc ms G CC hS hL hR hF h1 h2
  obtain ⟨hd, rfl, -⟩ := okd CC.2.2.2.2.2.2.2.2.2 hC rfl
  obtain ⟨g0, g1, g2, g3⟩ := cOk_spec ho
  subst h0
  obtain ⟨cell, c1, c2, c3, c4⟩ := hS.2.2.2.1.2.2.1 _ hq
  have hrc : ∃ cellB : Cell, H[ad G q]? = some cellB ∧ cellB.vm.isStatics = false ∧ s.vm.findClass C'.1.cls = some cellB.cls := by
    refine ⟨cell, ?_, c2, c3⟩
    rw [hF.2.1 _ (Array.getElem?_eq_some_iff.mp c1).1 c4]
    exact c1
  refine a_end CC hS hL hF h1 h2 g1 g2 hh (vx_runV (Ts := gT) (As := As.map (mv G)) (b := ad G q) ⟨CC.1, CC.2.1, CC.2.2.2.2.1, CC.2.2.2.2.2.1, gT_ok hS⟩ (hs l G CC.2.2.2.2.2.2.2.1) ⟨cb_of hS hM.1 hl g0, gT_ok hS _ (inT_gT hM.2.1), gT_ok hS _ (inT_gT hM.2.2)⟩ ⟨PcM.blind, hrc, pc_of (As := .ref q :: As) hS hR hF⟩ rfl (by simpa using hn) hL.1 (by simp [mv]) (lv_room (by rw [cat_map]; exact g3)) hd ⟨by show cells + j1 ≤ mc; omega, by show slots + j2 ≤ ms; omega⟩) kr kx
/-! switches: the target by a program over the number -/
def swT (pc : Nat) (dflt lo hi : Int) (offs : Array Int) (x : Int) : Option Nat := if x < lo ∨ hi < x then some ((pc : Int) + dflt).toNat else (offs[(x - lo).toNat]?).map fun o => ((pc : Int) + o).toNat
theorem a_tsw {dflt lo hi : Int} {offs : Array Int} {x : Int32} {tg : Nat} (hC : look C pc = some (.tableswitch dflt lo hi offs, np, tgt, w)) (hT : swT pc dflt lo hi offs x.toInt = some tg) (hpos : 0 ≤ (pc : Int) + dflt ∧ ∀ o ∈ offs, 0 ≤ (pc : Int) + o) (kk : AW S C d Q X k1 k2 tg ls st h) : AW S C d Q X k1 k2 pc ls (.int x :: st) h := by
  intro p l e s m args below meth c H la locs cells slots mc ms G CC hS hL hR hF h1 h2
  have hd := (CC.2.2.2.2.2.2.2.2.2 _ _ hC).2.1
  have K := kk p l e s m args below meth c H la locs cells slots mc ms G CC hS hL hR hF h1 h2
  unfold swT at hT
  by_cases hx : x.toInt < lo ∨ hi < x.toInt
  · rw [if_pos hx] at hT
    cases hT
    exact lv_tableOut CC.1 CC.2.1 hd hx (by have := hpos.1; omega) K
  · rw [if_neg hx] at hT
    cases ho : offs[(x.toInt - lo).toNat]? with
    | none => rw [ho] at hT; cases hT
    | some o =>
      rw [ho] at hT
      cases hT
      exact lv_tableIn CC.1 CC.2.1 hd (fun z => hx (Or.inl z)) (fun z => hx (Or.inr z)) ho (by have h7 := hpos.2 o (Array.mem_of_getElem? ho); show (pc : Int) + o = (((pc : Int) + o).toNat : Int); omega) K
theorem a_lsw {dflt : Int} {ps : Array (Int × Int)} {x : Int32} {tg : Nat} (hC : look C pc = some (.lookupswitch dflt ps, np, tgt, w)) (hp : (ps.toList.zip (ps.toList.drop 1)).all (fun (a, next) => a.1 < next.1) = true) (hT : (pc : Int) + Op.lookupswitch.offset ps.toList dflt x.toInt = (tg : Int)) (kk : AW S C d Q X k1 k2 tg ls st h) : AW S C d Q X k1 k2 pc ls (.int x :: st) h := by
  intro p l e s m args below meth c H la locs cells slots mc ms G CC hS hL hR hF h1 h2
  have hd := (CC.2.2.2.2.2.2.2.2.2 _ _ hC).2.1
  exact lv_lookup CC.1 CC.2.1 hd hp rfl hT (kk p l e s m args below meth c H la locs cells slots mc ms G CC hS hL hR hF h1 h2)
end B2
