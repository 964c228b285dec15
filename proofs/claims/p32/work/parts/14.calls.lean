/-! ===== the rules of AW: a method's contract, calls ===== -/
theorem Rep.frames {G : aG} {h : aH} {U : State} (a : Array Value) (g : JFrame) (mk : MethodId) (hR : Rep G h U.heap) : Rep G h (U.calling g mk a).heap := hR
theorem SW.frames {S : aS} {G : aG} {U : State} (a : Array Value) (g : JFrame) (mk : MethodId) (h : SW S G U) : SW S G (U.calling g mk a) := SW.go (U := U.calling g mk a) (State.WarmedH.refl U) (fun _ _ _ => rfl) h
theorem PcM.blind {S : aS} {G : aG} {args : List Value} {h : aH} : FrameBlind (PcM S G args h) := fun a U g mk q => ⟨q.1, Rep.frames a g mk q.2.1, SW.frames a g mk q.2.2⟩
def entL (args : List Value) (n : Nat) : List (Option Value) := args.map some ++ List.replicate (n - args.length) none
theorem lg_app {l r : List (Option Value)} {i : Nat} {v : Value} (h : lg (l ++ r) i = some v) (hr : ∀ j, lg r j = none) : lg l i = some v := by
  induction l generalizing i with
  | nil => rw [List.nil_append, hr] at h; cases h
  | cons a l ih =>
    rcases i with _ | i
    · exact h
    · exact ih h
theorem lg_none (n : Nat) : ∀ j, lg (List.replicate n (none : Option Value)) j = none := by
  induction n with
  | zero => intro j; rfl
  | succ n ih =>
    intro j
    rw [List.replicate_succ]
    rcases j with _ | j
    · rfl
    · exact ih j
theorem lg_args {G : aG} {args : List Value} (hc : ∀ v ∈ args, v.category = 1) {i n : Nat} {v : Value} (h : lg (args.map some) i = some v) : (n + i, mv G v) ∈ lv_args n (args.map (mv G)) := by
  induction args generalizing i n with
  | nil => simp [lg] at h
  | cons a r ih =>
    have h1 : (mv G a).category = 1 := (mv_cat G a).trans (hc a List.mem_cons_self)
    simp only [List.map_cons, lv_args]
    rw [if_neg (by omega)]
    rcases i with _ | i
    · simp only [List.map_cons, lg] at h
      cases h
      exact List.mem_cons_self
    · have := ih (fun v hv => hc v (List.mem_cons_of_mem _ hv)) (n := n + 1) h
      rw [show n + 1 + i = n + (i + 1) by omega] at this
      exact List.mem_cons_of_mem _ this
theorem sl_len {G : aG} {args : List Value} (hc : ∀ v ∈ args, v.category = 1) : (lg_sl (args.map (mv G))).length = args.length := by
  induction args with
  | nil => rfl
  | cons a r ih =>
    have h1 : ¬ (mv G a).category = 2 := by rw [mv_cat, hc a List.mem_cons_self]; decide
    have := ih (fun v hv => hc v (List.mem_cons_of_mem _ hv))
    unfold lg_sl at this ⊢
    rw [List.map_cons, List.flatMap_cons, if_neg h1]
    simp [this]
/-- THE CONTRACT OUT OF THE JUDGEMENT -/
theorem Sp_of {S : aS} {C : aM} {d k1 k2 : Nat} {args : List Value} {h : aH} {Q : Option Value → aH → Prop} {X : String → aH → Prop} (hO : okM C = true) (hc : args.all (fun v => v.category == 1) = true) (hn : Nat.ble args.length C.2.2.1 = true)
    (k : AW S C d Q X k1 k2 0 (entL args C.2.2.1) [] h) : Sp S C d k1 k2 args h Q X := by
  intro l G hl
  obtain ⟨hpl, hok⟩ : plainName C.1.cls = true ∧ C.2.2.2.2.2.all (fun r => r.all (okE C)) = true := by
    simpa [okM, Bool.and_eq_true] using hO
  have hc' : ∀ v ∈ args, v.category = 1 := fun v hv => by simpa using List.all_eq_true.mp hc v hv
  have hn' := Nat.le_of_ble_eq_true hn
  have body : ∀ (p : Program) (e : Env) (s : State) (m : MethodId) (av : Array Value) (below : List Frame) (meth : Method) (c : Code) (s₁ : State), BodyLoose p l C.1 (headSpec [mW C] (rmD d k1 k2)) C.2.1 C.2.2.1 C.2.2.2.1 e s m av below meth c s₁ → c.maxLocals = C.2.2.1 → c.exceptionTable.toList = tableOf C.2.2.2.2.1 → PcM S G args h av s →
      W p l e (headSpec [mW C] (rmD d k1 k2)).room s m av below meth c s.heap [] 0 0 (vx_MQ below (QcM G Q) (XcM G X) av s k1 k2 (aA G)) (entryFrame m av C.2.2.1) := by
    intro p e s m av below meth c s₁ B hml htab hP
    obtain ⟨rfl, hR, hS⟩ := hP
    rw [lg_entry_eq]
    have hl0 := lv_entry (args.map (mv G)) (n := C.2.2.1) (by rw [sl_len hc']; exact hn')
    refine k p l e s m _ below meth c s.heap _ [] 0 0 k1 k2 G ⟨B.exec, B.bytes, B.returns, B.notSynchronized, hml, findClass_of_methodNamed B.named, (name_of_methodNamed B.named B.method).1, hl, htab, okM_of hok⟩ hS ⟨hl0.1, hl0.2.1, fun i v hi => ?_⟩ hR va_S.rf (by omega) (by omega)
    have h1 := lg_app hi (lg_none _)
    have h2 := hl0.2.2 _ (lg_args (n := 0) hc' h1)
    simpa using h2
  by_cases hh : C.2.2.2.2.1 = []
  · refine vx_ofW (cc := C.2.1) (maxL := C.2.2.1) (ret := C.2.2.2.1) (ws' := []) hpl (by unfold mW; rw [hh]) ?_
    intro p e s m av below meth c s₁ B hml ht hP
    refine body p e s m av below meth c s₁ B hml ?_ hP
    rw [hh]
    exact List.eq_nil_iff_forall_not_mem.mpr ht
  · have hw : mW C = .codeWith C.1 C.2.1 C.2.2.1 C.2.2.2.1 C.2.2.2.2.1 := by
      unfold mW
      split
      · next z => exact absurd z hh
      · rfl
    refine vx_ofWH (cc := C.2.1) (maxL := C.2.2.1) (ret := C.2.2.2.1) (hh := C.2.2.2.2.1) (ws' := []) hpl (by rw [hw]) ?_
    intro p e s m av below meth c s₁ B hml hP
    exact body p e s m av below meth c s₁ B hml (vx_table (x := C.1) B (atoms_spec (ws := [mW C]) B.pre _ (by rw [hw]; exact List.mem_cons_self))) hP
theorem Sp.mono {S : aS} {C : aM} {d k1 k2 : Nat} {args : List Value} {h : aH} {Q Q' : Option Value → aH → Prop} {X X' : String → aH → Prop} (hs : Sp S C d k1 k2 args h Q X) (hQ : ∀ v h', Q v h' → Q' v h') (hX : ∀ E h', X E h' → X' E h') : Sp S C d k1 k2 args h Q' X' := by
  intro l G hl p e ha hc hk s m av below hf hP hK hp
  have := hs l G hl p e ha hc hk s m av below hf hP hK hp
  obtain ⟨k, o, h1, h2, h3, h4⟩ := this
  refine ⟨k, o, h1, h2, h3, ?_⟩
  rcases h4 with ⟨⟨v, h', e1, e2, e3⟩, hL⟩ | ⟨q, e1, E, ce, L, ⟨h', x1, x2⟩, hr⟩
  · exact Or.inl ⟨⟨v, h', e1, hQ _ _ e2, e3⟩, hL⟩
  · exact Or.inr ⟨q, e1, E, ce, L, ⟨h', hX _ _ x1, x2⟩, hr⟩
section A8
variable {p : Program} {l : Launch} {e : Env} {R : Room} {s : State} {m : MethodId} {args : Array Value} {below : List Frame} {meth : Method} {c : Code} {H : Heap} {locs : List Loc} {cells slots : Nat} {QW : State → Prop}
/-- behind a call -/
theorem go_run {G : aG} {Q' : Option Value → aH → Prop} {X' : String → aH → Prop} {j1 j2 pc : Nat} {la : Array Slot} {st0 rest : List Value} {a : Array Value}
    (hr : vx_Run p l e R s m args below meth c H locs cells slots j1 j2 (F0 m pc la st0) rest (QcM G Q' a) (XcM G X') (aA G)) (hF : va_S (aA G) s.heap H locs)
    (kr : ∀ v h' H' locs', Q' v h' → Rep G h' H' → va_S (aA G) s.heap H' locs' → W p l e R s m args below meth c H' locs' (cells + j1) (slots + j2) QW (F0 m (pc + 3) la ((Option.map (mv G) v).toList ++ rest)))
    (kx : ∀ E h' q ce H' locs', X' E h' → Rep G h' H' → va_S (aA G) s.heap H' locs' → H'[q]? = some ce → ce.vm = .none → s.vm.findClass E = some ce.cls → vx_W p l e R s m args below meth c H' locs' (cells + j1) (slots + j2) QW (F0 m pc la rest) q) :
    W p l e R s m args below meth c H locs cells slots QW (F0 m pc la st0) := by
  intro T hT X
  have keep : ∀ {st₀ t T' : State} {L : List Loc}, st₀.heap = H → T'.heap = t.heap → va_F (aA G) st₀ t → (∀ q ∈ L, aA G q.base) → va_S (aA G) s.heap T'.heap (locs ++ L) := by
    intro st₀ t T' L h0 e1 hf hL
    exact (vx_keep h0 e1 hF (fun _ _ z => z) (fun _ z => z) hL hf).2.2
  rcases hr T hT X with ⟨v, st₀, t, T', L, h0, X', hL, e1, e2, ⟨v', h', q1, q2, q3, q4⟩, st⟩ | ⟨q, st₀, t, T', L, E, ce, h0, X', hL, e1, e2, ⟨h', q2, q3, q4⟩, hce, hcv, hcl, st⟩
  · cases q1
    obtain ⟨t2, a1, b1⟩ := kr v' h' T'.heap (locs ++ L) q2 (by rw [e1]; exact q3) (keep h0 e1 q4 hL) T' rfl X'
    exact ⟨t2, st t2 a1, b1⟩
  · obtain ⟨t2, a1, b1⟩ := kx E h' q ce T'.heap (locs ++ L) q2 (by rw [e1]; exact q3) (keep h0 e1 q4 hL) (by rw [e1]; exact hce) hcv hcl T' rfl X'
    exact ⟨t2, st.trans a1, b1⟩
end A8
/-- the good words of the tables -/
def gT : List Cond := lw_tbl.filter goodWord
theorem gT_ok {S : aS} {G : aG} {s : State} {args : Array Value} (hS : SW S G s) : ∀ w ∈ gT, w.before args s = true := fun w hw => by
  obtain ⟨h1, h2⟩ := List.mem_filter.mp hw
  exact hS.2.2.1 w h1 (by rw [h2]; rfl) args
theorem inT_gT {w : Cond} (h : inT w) : w ∈ gT := List.mem_filter.mpr h
theorem good_gT {ws : List Cond} (h : ∀ w ∈ ws, inT w) : GoodIn gT ws := fun w hw => ⟨inT_gT (h w hw), good_of_word (h w hw).2⟩
theorem mW_code {C : aM} (h : C.2.2.2.2.1 = []) : mW C = .code C.1 C.2.1 C.2.2.1 C.2.2.2.1 := by unfold mW; rw [h]
theorem mW_codeW {C : aM} (h : C.2.2.2.2.1 ≠ []) : mW C = .codeWith C.1 C.2.1 C.2.2.1 C.2.2.2.1 C.2.2.2.2.1 := by
  unfold mW
  split
  · next z => exact absurd z h
  · rfl
theorem MO.ws {C : aM} {n : Nat} (h : MO C n) : ∀ w ∈ [mW C], inT w := fun w hw => by
  rw [mW_code h.1, List.mem_singleton] at hw
  subst hw
  exact h.2.1
section A9
variable {S : aS} {C C' : aM} {d d' : Nat} {Q Q' : Option Value → aH → Prop} {X X' : String → aH → Prop} {k1 k2 j1 j2 pc np tgt n : Nat} {w : Int32} {ls ls' : List (Option Value)} {st st' st0 : List Value} {h : aH} {ins : Instr} {As : List Value}
/-- what a call asks of the room: d' + 1 ≤ d, and of the stack below -/
def cOk (d d' j1 j2 k1 k2 : Nat) (st : List Value) : Bool := Nat.ble (d' + 1) d && (Nat.ble j1 k1 && (Nat.ble j2 k2 && Nat.ble (st.map fun v => v.category).sum 8))
theorem cOk_spec {d d' j1 j2 k1 k2 : Nat} {st : List Value} (h : cOk d d' j1 j2 k1 k2 st = true) : d' + 1 ≤ d ∧ j1 ≤ k1 ∧ j2 ≤ k2 ∧ (st.map fun v => v.category).sum ≤ 8 := by
  simp only [cOk, Bool.and_eq_true] at h
  exact ⟨Nat.le_of_ble_eq_true h.1, Nat.le_of_ble_eq_true h.2.1, Nat.le_of_ble_eq_true h.2.2.1, Nat.le_of_ble_eq_true h.2.2.2⟩
theorem cat_map (G : aG) (st : List Value) : ((st.map (mv G)).map fun v => v.category).sum = (st.map fun v => v.category).sum := by
  rw [List.map_map]
  congr 1
  exact List.map_congr_left fun v _ => mv_cat G v
/-- thrown through a method without handlers -/
theorem go_out {p : Program} {l : Launch} {e : Env} {s : State} {m : MethodId} {args : Array Value} {below : List Frame} {meth : Method} {c : Code} {H' : Heap} {la : Array Slot} {locs' : List Loc} {cells slots mc ms : Nat} {G : aG} {E : String} {h' : aH} {q : Addr} {ce : Cell} {rest : List Value}
    (CC : CX C l p s m meth c) (hh : C.2.2.2.2.1 = []) (hX : X E h') (hR : Rep G h' H') (hF : va_S (aA G) s.heap H' locs') (hce : H'[q]? = some ce) (hcv : ce.vm = .none) (hcl : s.vm.findClass E = some ce.cls) (h1 : cells ≤ mc) (h2 : slots ≤ ms) :
    vx_W p l e (rmD d mc ms) s m args below meth c H' locs' cells slots (vx_MQ below (QcM G Q) (XcM G X) args s mc ms (aA G)) (F0 m pc la rest) q :=
  vx_out (fun x hx => by rw [CC.2.2.2.2.2.2.2.2.1, hh] at hx; cases hx) CC.2.2.2.1 hce hcv hcl (fun t ht hA => ⟨h', hX, by rw [ht]; exact hR, hF.F ht⟩) hF.2.2 h1 h2
/-- the words of a call of a method known by its callers -/
theorem cb_of {own : String} {idx : Nat} {s : State} {args : Array Value} {mc ms : Nat} {G : aG} (hS : SW S G s) (hM : MO C' n) (hl : inT (.methodLink own idx C'.1)) (hd : d' + 1 ≤ d) :
    CallB (rmD d mc ms) s args own idx C'.1 C'.2.1 C'.2.2.1 C'.2.2.2.1 [mW C'] (rmD d' j1 j2) j1 j2 n := by
  have := hM.2.2.2.2
  refine callB_of (Ts := gT) (ws' := []) n (gT_ok hS) (good_gT hM.ws) (by rw [mW_code hM.1]) rfl rfl (gT_ok hS _ (inT_gT hM.2.2.1)) (gT_ok hS _ (inT_gT hl)) hM.2.2.2.1 ⟨by show d' + 998 + 1 ≤ d + 998; omega, ?_⟩
  show 8 + (C'.2.2.1 + 11) + 80 * d' ≤ 80 * d
  omega
theorem cn_of {own host : String} {idx : Nat} {s : State} {args : Array Value} {mc ms : Nat} {G : aG} (hS : SW S G s) (hM : MO C' n) (hl : Cond.methodLinkNest own idx C'.1 host ∈ lw_tbl) (hd : d' + 1 ≤ d) :
    va_CN (rmD d mc ms) s args own idx C'.1 host C'.2.1 C'.2.2.1 C'.2.2.2.1 [mW C'] (rmD d' j1 j2) j1 j2 n := by
  have := hM.2.2.2.2
  refine va_cnB (Ts := gT) (ws' := []) n (gT_ok hS) (good_gT hM.ws) (by rw [mW_code hM.1]) rfl rfl (va_Nw.of rfl (hS.2.2.1 _ hl (by simp [isNest]) #[])) (gT_ok hS _ (inT_gT hM.2.2.1)) hM.2.2.2.1 ⟨by show d' + 998 + 1 ≤ d + 998; omega, ?_⟩
  show 8 + (C'.2.2.1 + 11) + 80 * d' ≤ 80 * d
  omega
theorem pc_of {s : State} {H : Heap} {G : aG} (hS : SW S G s) (hR : Rep G h H) {locs : List Loc} (hF : va_S (aA G) s.heap H locs) : ∀ U : State, U.heap = H → s.WarmedH U.vm → PcM S G As h (As.map (mv G)).toArray U := fun U hU hW => ⟨rfl, by rw [hU]; exact hR, SW.go hW (fun q hq hn => by rw [hU]; exact hF.2.1 q hq hn) hS⟩
/-- the receiver's class -/
def rcv (h : aH) (q : Nat) (cn : String) : Prop := ∃ ci r, h.1 q = (1, ci) ∧ aC[ci]? = some r ∧ r.1.1 = cn
theorem rcv_of {s : State} {H : Heap} {G : aG} {q : Nat} {cn : String} (hS : SW S G s) (hR : Rep G h H) (hq : rcv h q cn) : ∃ cellB : Cell, H[ad G q]? = some cellB ∧ cellB.vm.isStatics = false ∧ s.vm.findClass cn = some cellB.cls := by
  obtain ⟨ci, r, hK, hr, rfl⟩ := hq
  obtain ⟨r', hr', cell, q1, q2, q3, q4⟩ := hR.ob hK
  cases hr.symm.trans hr'
  exact ⟨cell, q1, by rw [q3]; rfl, by rw [q2]; exact (hS.1 ci r hr).2.1⟩
/-- a call's end, for all kinds -/
theorem a_end {p : Program} {l : Launch} {e : Env} {s : State} {m : MethodId} {args : Array Value} {below : List Frame} {meth : Method} {c : Code} {H : Heap} {la : Array Slot} {locs : List Loc} {cells slots mc ms : Nat} {G : aG} {a : Array Value} {stm : List Value}
    (CC : CX C l p s m meth c) (hS : SW S G s) (hL : HL G la C.2.2.1 ls) (hF : va_S (aA G) s.heap H locs) (h1 : cells + k1 ≤ mc) (h2 : slots + k2 ≤ ms) (g1 : j1 ≤ k1) (g2 : j2 ≤ k2) (hh : C.2.2.2.2.1 = [])
    (hr : vx_Run p l e (rmD d mc ms) s m args below meth c H locs cells slots j1 j2 (F0 m pc la stm) (st.map (mv G)) (QcM G Q' a) (XcM G X') (aA G))
    (kr : ∀ v h', Q' v h' → AW S C d Q X (k1 - j1) (k2 - j2) (pc + 3) ls (v.toList ++ st) h') (kx : ∀ E h', X' E h' → X E h') :
    W p l e (rmD d mc ms) s m args below meth c H locs cells slots (vx_MQ below (QcM G Q) (XcM G X) args s mc ms (aA G)) (F0 m pc la stm) := by
  refine go_run hr hF (fun v h' H' locs' q1 q2 q3 => ?_) (fun E h' q ce H' locs' q1 q2 q3 q4 q5 q6 => go_out CC hh (kx _ _ q1) q2 q3 q4 q5 q6 (by omega) (by omega))
  have K := kr v h' q1 p l e s m args below meth c H' la locs' (cells + j1) (slots + j2) mc ms G CC hS hL q2 q3 (by omega) (by omega)
  have e1 : (v.toList ++ st).map (mv G) = (Option.map (mv G) v).toList ++ st.map (mv G) := by cases v <;> simp
  rw [e1] at K
  exact K
theorem a_callV {idx q : Nat} (hC : look C pc = some (.invokevirtual idx, np, tgt, w)) (hl : LK C.1.cls idx C') (hM : MOv C' n) (hs : Sp S C' d' j1 j2 (.ref q :: As) h Q' X') (hn : As.length = n) (h0 : st0 = As.reverse ++ .ref q :: st) (ho : cOk d d' j1 j2 k1 k2 st = true) (hq : rcv h q C'.1.cls) (hh : C.2.2.2.2.1 = [])
    (kr : ∀ v h', Q' v h' → AW S C d Q X (k1 - j1) (k2 - j2) np ls (v.toList ++ st) h') (kx : ∀ E h', X' E h' → X E h') : AW S C d Q X k1 k2 pc ls st0 h := by
  intro p l e s m args below meth c H la locs cells slots mc ms G CC hS hL hR hF h1 h2
  obtain ⟨hd, rfl, -⟩ := okd CC.2.2.2.2.2.2.2.2.2 hC rfl
  obtain ⟨g0, g1, g2, g3⟩ := cOk_spec ho
  subst h0
  refine a_end CC hS hL hF h1 h2 g1 g2 hh (vx_runV (Ts := gT) (As := As.map (mv G)) (b := ad G q) ⟨CC.1, CC.2.1, CC.2.2.2.2.1, CC.2.2.2.2.2.1, gT_ok hS⟩ (hs l G CC.2.2.2.2.2.2.2.1) ⟨cb_of hS hM.1 hl g0, gT_ok hS _ (inT_gT hM.2.1), gT_ok hS _ (inT_gT hM.2.2)⟩ ⟨PcM.blind, rcv_of hS hR hq, pc_of (As := .ref q :: As) hS hR hF⟩ rfl (by simpa using hn) hL.1 (by simp [mv]) (lv_room (by rw [cat_map]; exact g3)) hd ⟨by show cells + j1 ≤ mc; omega, by show slots + j2 ≤ ms; omega⟩) kr kx
theorem a_callN {idx q : Nat} (hC : look C pc = some (.invokevirtual idx, np, tgt, w)) (hl : LKn C.1.cls idx C') (hM : MOv C' n) (hs : Sp S C' d' j1 j2 (.ref q :: As) h Q' X') (hn : As.length = n) (h0 : st0 = As.reverse ++ .ref q :: st) (ho : cOk d d' j1 j2 k1 k2 st = true) (hq : rcv h q C'.1.cls) (hh : C.2.2.2.2.1 = [])
    (kr : ∀ v h', Q' v h' → AW S C d Q X (k1 - j1) (k2 - j2) np ls (v.toList ++ st) h') (kx : ∀ E h', X' E h' → X E h') : AW S C d Q X k1 k2 pc ls st0 h := by
  intro p l e s m args below meth c H la locs cells slots mc ms G CC hS hL hR hF h1 h2
  obtain ⟨hd, rfl, -⟩ := okd CC.2.2.2.2.2.2.2.2.2 hC rfl
  obtain ⟨g0, g1, g2, g3⟩ := cOk_spec ho
  subst h0
  obtain ⟨host, hl⟩ := hl
  refine a_end CC hS hL hF h1 h2 g1 g2 hh (vx_runVN (Ts := gT) (As := As.map (mv G)) (b := ad G q) ⟨CC.1, CC.2.1, CC.2.2.2.2.1, CC.2.2.2.2.2.1, gT_ok hS⟩ (hs l G CC.2.2.2.2.2.2.2.1) ⟨cn_of hS hM.1 hl g0, gT_ok hS _ (inT_gT hM.2.1), gT_ok hS _ (inT_gT hM.2.2)⟩ ⟨PcM.blind, rcv_of hS hR hq, pc_of (As := .ref q :: As) hS hR hF⟩ rfl (by simpa using hn) hL.1 (by simp [mv]) (lv_room (by rw [cat_map]; exact g3)) hd ⟨by show cells + j1 ≤ mc; omega, by show slots + j2 ≤ ms; omega⟩) kr kx
theorem a_callS {idx : Nat} (hC : look C pc = some (.invokestatic idx, np, tgt, w)) (hl : LK C.1.cls idx C') (hM : MOs C' n) (hs : Sp S C' d' j1 j2 As h Q' X') (hn : As.length = n) (h0 : st0 = As.reverse ++ st) (ho : cOk d d' j1 j2 k1 k2 st = true) (hh : C.2.2.2.2.1 = [])
    (kr : ∀ v h', Q' v h' → AW S C d Q X (k1 - j1) (k2 - j2) np ls (v.toList ++ st) h') (kx : ∀ E h', X' E h' → X E h') : AW S C d Q X k1 k2 pc ls st0 h := by
  intro p l e s m args below meth c H la locs cells slots mc ms G CC hS hL hR hF h1 h2
  obtain ⟨hd, rfl, -⟩ := okd CC.2.2.2.2.2.2.2.2.2 hC rfl
  obtain ⟨g0, g1, g2, g3⟩ := cOk_spec ho
  subst h0
  refine a_end CC hS hL hF h1 h2 g1 g2 hh (vx_runS (Ts := gT) (As := As.map (mv G)) ⟨CC.1, CC.2.1, CC.2.2.2.2.1, CC.2.2.2.2.2.1, gT_ok hS⟩ (hs l G CC.2.2.2.2.2.2.2.1) ⟨cb_of hS hM.1 hl g0, gT_ok hS _ (inT_gT hM.2)⟩ ⟨PcM.blind, pc_of hS hR hF⟩ rfl (by simpa using hn) hL.1 (by simp) (lv_room (by rw [cat_map]; exact g3)) hd ⟨by show cells + j1 ≤ mc; omega, by show slots + j2 ≤ ms; omega⟩) kr kx
theorem a_callSN {idx : Nat} (hC : look C pc = some (.invokestatic idx, np, tgt, w)) (hl : LKn C.1.cls idx C') (hM : MOs C' n) (hs : Sp S C' d' j1 j2 As h Q' X') (hn : As.length = n) (h0 : st0 = As.reverse ++ st) (ho : cOk d d' j1 j2 k1 k2 st = true) (hh : C.2.2.2.2.1 = [])
    (kr : ∀ v h', Q' v h' → AW S C d Q X (k1 - j1) (k2 - j2) np ls (v.toList ++ st) h') (kx : ∀ E h', X' E h' → X E h') : AW S C d Q X k1 k2 pc ls st0 h := by
  intro p l e s m args below meth c H la locs cells slots mc ms G CC hS hL hR hF h1 h2
  obtain ⟨hd, rfl, -⟩ := okd CC.2.2.2.2.2.2.2.2.2 hC rfl
  obtain ⟨g0, g1, g2, g3⟩ := cOk_spec ho
  subst h0
  obtain ⟨host, hl⟩ := hl
  refine a_end CC hS hL hF h1 h2 g1 g2 hh (vx_runSN (Ts := gT) (As := As.map (mv G)) ⟨CC.1, CC.2.1, CC.2.2.2.2.1, CC.2.2.2.2.2.1, gT_ok hS⟩ (hs l G CC.2.2.2.2.2.2.2.1) ⟨cn_of hS hM.1 hl g0, gT_ok hS _ (inT_gT hM.2), trivial⟩ ⟨PcM.blind, pc_of hS hR hF⟩ rfl (by simpa using hn) hL.1 (by simp) (lv_room (by rw [cat_map]; exact g3)) hd ⟨by show cells + j1 ≤ mc; omega, by show slots + j2 ≤ ms; omega⟩) kr kx
theorem a_callI {idx q : Nat} (hC : look C pc = some (.invokespecial idx, np, tgt, w)) (hl : LK C.1.cls idx C') (hM : MOi C' n) (hs : Sp S C' d' j1 j2 (.ref q :: As) h Q' X') (hn : As.length = n) (h0 : st0 = As.reverse ++ .ref q :: st) (ho : cOk d d' j1 j2 k1 k2 st = true) (hh : C.2.2.2.2.1 = [])
    (kr : ∀ v h', Q' v h' → AW S C d Q X (k1 - j1) (k2 - j2) np ls (v.toList ++ st) h') (kx : ∀ E h', X' E h' → X E h') : AW S C d Q X k1 k2 pc ls st0 h := by
  intro p l e s m args below meth c H la locs cells slots mc ms G CC hS hL hR hF h1 h2
  obtain ⟨hd, rfl, -⟩ := okd CC.2.2.2.2.2.2.2.2.2 hC rfl
  obtain ⟨g0, g1, g2, g3⟩ := cOk_spec ho
  subst h0
  have cb := cb_of (args := args) (mc := mc) (ms := ms) (j1 := j1) (j2 := j2) hS hM.1 hl g0
  rw [hM.2.2.2] at cb
  refine a_end CC hS hL hF h1 h2 g1 g2 hh (vx_runI (Ts := gT) (As := As.map (mv G)) (b := ad G q) ⟨CC.1, CC.2.1, CC.2.2.2.2.1, CC.2.2.2.2.2.1, gT_ok hS⟩ (hs l G CC.2.2.2.2.2.2.2.1) ⟨cb, hM.2.2.1, gT_ok hS _ (inT_gT hM.2.1)⟩ ⟨PcM.blind, pc_of (As := .ref q :: As) hS hR hF⟩ rfl (by simpa using hn) hL.1 (by simp [mv]) (lv_room (by rw [cat_map]; exact g3)) hd ⟨by show cells + j1 ≤ mc; omega, by show slots + j2 ≤ ms; omega⟩) kr kx
theorem a_callIN {idx q : Nat} (hC : look C pc = some (.invokespecial idx, np, tgt, w)) (hl : LKn C.1.cls idx C') (hM : MOi C' n) (hs : Sp S C' d' j1 j2 (.ref q :: As) h Q' X') (hn : As.length = n) (h0 : st0 = As.reverse ++ .ref q :: st) (ho : cOk d d' j1 j2 k1 k2 st = true) (hh : C.2.2.2.2.1 = [])
    (kr : ∀ v h', Q' v h' → AW S C d Q X (k1 - j1) (k2 - j2) np ls (v.toList ++ st) h') (kx : ∀ E h', X' E h' → X E h') : AW S C d Q X k1 k2 pc ls st0 h := by
  intro p l e s m args below meth c H la locs cells slots mc ms G CC hS hL hR hF h1 h2
  obtain ⟨hd, rfl, -⟩ := okd CC.2.2.2.2.2.2.2.2.2 hC rfl
  obtain ⟨g0, g1, g2, g3⟩ := cOk_spec ho
  subst h0
  obtain ⟨host, hl⟩ := hl
  have cb := cn_of (args := args) (mc := mc) (ms := ms) (j1 := j1) (j2 := j2) hS hM.1 hl g0
  rw [hM.2.2.2] at cb
  refine a_end CC hS hL hF h1 h2 g1 g2 hh (vx_runIN (Ts := gT) (As := As.map (mv G)) (b := ad G q) ⟨CC.1, CC.2.1, CC.2.2.2.2.1, CC.2.2.2.2.2.1, gT_ok hS⟩ (hs l G CC.2.2.2.2.2.2.2.1) ⟨cb, hM.2.2.1, gT_ok hS _ (inT_gT hM.2.1)⟩ ⟨PcM.blind, pc_of (As := .ref q :: As) hS hR hF⟩ rfl (by simpa using hn) hL.1 (by simp [mv]) (lv_room (by rw [cat_map]; exact g3)) hd ⟨by show cells + j1 ≤ mc; omega, by show slots + j2 ≤ ms; omega⟩) kr kx
/-- a static method with handlers of its own, which never throws -/
theorem a_callW {idx : Nat} (hC : look C pc = some (.invokestatic idx, np, tgt, w)) (hl : LK C.1.cls idx C') (hM : MOw C' n) (hs : Sp S C' d' j1 j2 As h Q' X') (hn : As.length = n) (h0 : st0 = As.reverse ++ st) (ho : cOk d d' j1 j2 k1 k2 st = true) (hh : C.2.2.2.2.1 = [])
    (kr : ∀ v h', Q' v h' → AW S C d Q X (k1 - j1) (k2 - j2) np ls (v.toList ++ st) h') (kx : ∀ E h', X' E h' → X E h') : AW S C d Q X k1 k2 pc ls st0 h := by
  intro p l e s m args below meth c H la locs cells slots mc ms G CC hS hL hR hF h1 h2
  obtain ⟨hd, rfl, -⟩ := okd CC.2.2.2.2.2.2.2.2.2 hC rfl
  obtain ⟨g0, g1, g2, g3⟩ := cOk_spec ho
  subst h0
  have hw : ∀ w ∈ [mW C'], inT w := fun w hw => by
    rw [mW_codeW hM.1, List.mem_singleton] at hw
    subst hw
    exact hM.2.1
  have hm := hM.2.2.2.2.1
  have cw := vx_cwSW (R := rmD d mc ms) (s := s) (args := args) (own := C.1.cls) (index := idx) (hh := C'.2.2.2.2.1) (rm := rmD d' j1 j2) (mc := j1) (ms := j2) (ws := [mW C']) (ws' := []) (bytes := C'.2.1) (maxL := C'.2.2.1) (ret := C'.2.2.2.1) (y := C'.1) (Ts := gT) n (gT_ok hS) (good_gT (fun w hw' => by
      unfold va_wsS at hw'
      rcases List.mem_append.mp hw' with hw' | hw'
      · simp only [List.mem_cons, List.not_mem_nil, or_false] at hw'
        rcases hw' with rfl | rfl | rfl
        · exact hl
        · exact hM.2.2.2.2.2
        · exact hM.2.2.1
      · exact hw w hw')) (by rw [mW_codeW hM.1]) rfl rfl hM.2.2.2.1 ⟨by show d' + 998 + 1 ≤ d + 998; omega, by show 8 + (C'.2.2.1 + 11) + 80 * d' ≤ 80 * d; omega⟩
  refine a_end CC hS hL hF h1 h2 g1 g2 hh (vx_runSX (Ts := gT) (As := As.map (mv G)) ⟨CC.1, CC.2.1, CC.2.2.2.2.1, CC.2.2.2.2.2.1, gT_ok hS⟩ (hs l G CC.2.2.2.2.2.2.2.1) cw ⟨PcM.blind, pc_of hS hR hF⟩ rfl (by simpa using hn) hL.1 (by simp) (lv_room (by rw [cat_map]; exact g3)) hd ⟨by show cells + j1 ≤ mc; omega, by show slots + j2 ≤ ms; omega⟩) kr kx
end A9
