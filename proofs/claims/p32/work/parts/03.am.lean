/-! ===== THE ABSTRACT MACHINE: places for addresses, a heap of numbers, and the judgement AW over the kit's W ===== -/
/-- class ids and slots, array classes by tag, the first address that is ours, addresses of the constants -/
abbrev aG : Type := va_G × (Nat → ClassId) × Nat × (Nat → Nat)
/-- kinds of places (0 none, 1 an object of class n, t > 1 an array of n), ints, longs, references (0 null, q + 1 place q), the next place (0: not known) -/
abbrev aH : Type := (Nat → Nat × Nat) × (Nat → Nat → Int32) × (Nat → Nat → Int64) × (Nat → Nat → Nat) × Nat
abbrev aE : Type := Nat × Instr × Nat × Nat × Int32
/-- a method: its name, bytes, locals, answer, handlers, code -/
abbrev aM : Type := MethodName × ByteArray × Nat × Option FieldType × List (Nat × Nat × Nat × Nat) × List (List aE)
def lookIn (pc : Nat) : List aE → Option (Instr × Nat × Nat × Int32)
  | [] => none
  | e :: r => match Nat.beq e.1 pc with | true => some e.2 | false => lookIn pc r
def nth : List (List aE) → Nat → List aE
  | [], _ => []
  | a :: _, 0 => a
  | _ :: r, n + 1 => nth r n
def look (C : aM) (pc : Nat) : Option (Instr × Nat × Nat × Int32) := lookIn pc (nth C.2.2.2.2.2 (pc / 64))
def ad (G : aG) (p : Nat) : Nat := match Nat.ble 200 p with | true => G.2.2.1 + (p - 200) | false => G.2.2.2 p
def mv (G : aG) : Value → Value
  | .ref p => .ref (ad G p)
  | v => v
def rv : Nat → Value
  | 0 => .null
  | p + 1 => .ref p
def aA (G : aG) : Nat → Prop := fun q => G.2.2.1 ≤ q
def up2 {α : Type} (f : Nat → Nat → α) (p k : Nat) (v : α) : Nat → Nat → α := fun q => if q = p then (fun j => if j = k then v else f p j) else f q
theorem up2_row {α : Type} {f : Nat → Nat → α} {p k q : Nat} {v : α} (h : q ≠ p) : up2 f p k v q = f q := by simp [up2, h]
theorem up2_at {α : Type} {f : Nat → Nat → α} {p k : Nat} {v : α} : up2 f p k v p k = v := by simp [up2]
theorem up2_ne {α : Type} {f : Nat → Nat → α} {p k q j : Nat} {v : α} (h : q ≠ p ∨ j ≠ k) : up2 f p k v q j = f q j := by
  by_cases hq : q = p
  · subst hq
    rcases h with h | h
    · exact absurd rfl h
    · simp [up2, h]
  · simp [up2, hq]
theorem mv_cat (G : aG) (v : Value) : (mv G v).category = v.category := by cases v <;> rfl
theorem mv_rv0 (G : aG) : mv G (rv 0) = .null := rfl
def rfo (G : aG) : Nat → Option Nat
  | 0 => none
  | p + 1 => some (ad G p)
theorem mv_rf (G : aG) (r : Nat) : mv G (rv r) = va_rf (rfo G r) := by cases r <;> rfl
theorem ad_dyn {G : aG} {p : Nat} (h : 200 ≤ p) : ad G p = G.2.2.1 + (p - 200) := by
  have : Nat.ble 200 p = true := Nat.ble_eq_true_of_le h
  simp [ad, this]
theorem ad_stat {G : aG} {p : Nat} (h : p < 200) : ad G p = G.2.2.2 p := by
  have : Nat.ble 200 p = false := by
    cases hb : Nat.ble 200 p with
    | false => rfl
    | true => exact absurd (Nat.le_of_ble_eq_true hb) (by omega)
  simp [ad, this]
/-- the classes whose objects are places, with their fields' types -/
abbrev aC : List (vw_C × (Nat → FieldType)) := [((RX0, TX0, 2), tyX0), ((RX1, TX1, 3), tyX1), ((RX2, TX2, 9), tyX2), ((RX3, TX3, 6), tyX3), ((RX3, TX3, 6), tyX3), ((RX5, TX5, 18), tyX5), ((RX6, TX6, 3), tyX6), ((RX7, TX7, 2), tyX7), ((RX7, TX7, 2), tyX7), ((RX9, TX9, 10), tyX9), ((RX9, TX9, 10), tyX9), ((RX11, TX11, 14), tyX11), ((RX12, TX12, 20), tyX12)]
def fv (G : aG) (I : Nat → Nat → Int32) (R : Nat → Nat → Nat) (p : Nat) (ty : FieldType) (k : Nat) : Value := match ty with
  | .int => .int (I p k)
  | .boolean => .int (I p k)
  | _ => mv G (rv (R p k))
/-- array tags: 2 int, 3 byte, 4 long, 5 of streets -/
def ev (G : aG) (I : Nat → Nat → Int32) (L : Nat → Nat → Int64) (R : Nat → Nat → Nat) (t p j : Nat) : Value := match t with
  | 2 => .int (I p j)
  | 3 => .int (I p j)
  | 4 => .long (L p j)
  | _ => mv G (rv (R p j))
def obA (G : aG) (I : Nat → Nat → Int32) (R : Nat → Nat → Nat) (H : Heap) (p ci : Nat) : Prop :=
  ∃ r, aC[ci]? = some r ∧ ∃ cell : Cell, H[ad G p]? = some cell ∧ cell.cls = G.1.1 ci ∧ cell.vm = .none ∧ ∀ k, k < r.1.2.2 → cell.slots[G.1.2 ci k]? = some (fv G I R p (r.2 k) k)
def arA (G : aG) (I : Nat → Nat → Int32) (L : Nat → Nat → Int64) (R : Nat → Nat → Nat) (H : Heap) (p t n : Nat) : Prop := H[ad G p]? = some (arrV (G.2.1 t) n (fun j => ev G I L R t p j))
def cellA (G : aG) (h : aH) (H : Heap) (p : Nat) : Prop := match h.1 p with
  | (0, _) => True
  | (1, ci) => obA G h.2.1 h.2.2.2.1 H p ci
  | (t + 2, n) => arA G h.2.1 h.2.2.1 h.2.2.2.1 H p (t + 2) n
def Rep (G : aG) (h : aH) (H : Heap) : Prop :=
  (∀ p, cellA G h H p) ∧ (∀ p, (h.1 p).1 ≠ 0 → 200 ≤ p) ∧ (200 ≤ h.2.2.2.2 → H.size = G.2.2.1 + (h.2.2.2.2 - 200)) ∧ G.2.2.1 ≤ H.size
/-- what is said of the constants, by lists: static fields, objects, their fields, arrays, texts -/
abbrev aS : Type := List (String × String × String × Value) × List (Nat × String) × List (Nat × String × String × String × Value) × List (Nat × FieldType × Nat × (Nat → Value)) × List (String × Nat × String × Nat) × List (String × String)
def isNest : Cond → Bool
  | .methodLinkNest _ _ _ _ => true
  | .declares _ => true
  | .castable _ _ => true
  | _ => false
theorem cast_warm {A a' : Array Value} {s U : State} {x y : String} (hW : s.WarmedH U.vm) (h : (Cond.castable x y).before A s = true) : (Cond.castable x y).before a' U = true := by
  simp only [Cond.before, Cond.holds, Cond.value, hW.alike.findClass, hW.alike.assignable] at h ⊢
  exact h
/-- the tables' words, of any arguments -/
def TW (U : State) : Prop := ∀ w ∈ lw_tbl, (goodWord w || isNest w) = true → ∀ a : Array Value, w.before a U = true
theorem TW.warm {s U : State} (hW : s.WarmedH U.vm) (h : TW s) : TW U := by
  intro w hw hg a
  cases hg1 : goodWord w with
  | true => exact word_at hW (good_of_word hg1) (h w hw hg #[])
  | false =>
    rw [hg1] at hg
    cases w with
    | methodLinkNest x i y z => exact va_Nw.use rfl (va_Nw.warmM hW (va_Nw.of rfl (h _ hw (by rw [hg1]; exact hg) #[])))
    | declares x => exact va_Nw.use rfl (va_Nw.warmD hW (va_Nw.of rfl (h _ hw (by rw [hg1]; exact hg) #[])))
    | castable x y => exact cast_warm hW (h _ hw (by rw [hg1]; exact hg) #[])
    | _ => exact absurd hg (by simp [isNest])
def tagTy : Nat → FieldType
  | 2 => .int
  | 3 => .byte
  | 4 => .long
  | _ => .object RX5
def SW (S : aS) (G : aG) (U : State) : Prop :=
  (∀ (ci : Nat) (r : vw_C × (Nat → FieldType)), aC[ci]? = some r → u_Kn U r.1.1 r.1.2.1 r.1.2.2 (G.1.1 ci) (G.1.2 ci)) ∧
  (∀ t, t < 4 → ArrOfT U (G.2.1 (t + 2)) (tagTy (t + 2)) ∧ va_RA U (G.2.1 (t + 2)) (tagTy (t + 2))) ∧
  TW U ∧
  ((vx_Zq Bundle.tN "UNASSIGNED_STACK" Bundle.steD (aA G) U U.heap ∧ vx_Zq Bundle.tN "SUPPRESSED_SENTINEL" Bundle.listD (aA G) U U.heap) ∧
  (∀ r ∈ S.1, va_Z r.1 r.2.1 r.2.2.1 (mv G r.2.2.2) (aA G) U U.heap) ∧
  (∀ r ∈ S.2.1, va_O r.2 (ad G r.1) (aA G) U U.heap) ∧
  (∀ r ∈ S.2.2.1, va_OF r.2.1 r.2.2.1 r.2.2.2.1 (mv G r.2.2.2.2) (ad G r.1) (aA G) U U.heap) ∧
  (∀ r ∈ S.2.2.2.1, va_T r.2.1 (ad G r.1) r.2.2.1 (fun j => mv G (r.2.2.2 j)) (aA G) U U.heap)) ∧
  (∀ r ∈ S.2.2.2.2.1, vk_R r.1 r.2.1 r.2.2.1 (ad G r.2.2.2) U) ∧ (∀ r ∈ S.2.2.2.2.2, va_Nc r.1 r.2 U) ∧
  (∀ r r' : Nat × String, r ∈ S.2.1 → r' ∈ S.2.1 → ad G r.1 = ad G r'.1 → r.1 = r'.1) ∧ va_AO RX5 U
theorem SW.go {S : aS} {G : aG} {s U : State} (hW : s.WarmedH U.vm) (hF : ∀ q : Nat, q < s.heap.size → ¬ aA G q → U.heap[q]? = s.heap[q]?) (h : SW S G s) : SW S G U := by
  obtain ⟨h1, h2, h3, ⟨⟨h4, h5⟩, h6, h7, h8, h9⟩, h10, h12, h11, h13⟩ := h
  refine ⟨fun ci r hr => u_Kn_moved hW.alike (h1 ci r hr), fun t ht => ⟨arrOfT_moved hW.alike (h2 t ht).1, (h2 t ht).2.moved hW.alike⟩, h3.warm hW, ⟨⟨?_, ?_⟩, fun r hr => ?_, fun r hr => ?_, fun r hr => ?_, fun r hr => ?_⟩, fun r hr => (h10 r hr).warm hW, fun r hr => (h12 r hr).moved hW.alike, h11, h13.moved hW.alike⟩
  · exact (h4.moved hW.alike).kept hF
  · exact (h5.moved hW.alike).kept hF
  · exact ((h6 r hr).moved hW.alike).kept hF
  · exact ((h7 r hr).moved hW.alike).kept hF
  · exact ((h8 r hr).moved hW.alike).kept hF
  · exact ((h9 r hr).moved hW.alike).kept hF
/-- an instruction's length (0: a switch) -/
def ilen : Instr → Nat
  | .bipush _ => 2
  | .sipush _ => 3
  | .iload _ => 2
  | .lload _ => 2
  | .aload _ => 2
  | .istore _ => 2
  | .lstore _ => 2
  | .astore _ => 2
  | .ldc _ => 2
  | .ldc_w _ => 3
  | .ldc2_w _ => 3
  | .iinc _ _ => 3
  | .goto _ => 3
  | .ifCond _ _ => 3
  | .if_icmp _ _ => 3
  | .if_acmp _ _ => 3
  | .ifnull _ => 3
  | .ifnonnull _ => 3
  | .getfield _ => 3
  | .putfield _ => 3
  | .getstatic _ => 3
  | .invokevirtual _ => 3
  | .invokespecial _ => 3
  | .invokestatic _ => 3
  | .new _ => 3
  | .newarray _ => 2
  | .anewarray _ => 3
  | .tableswitch _ _ _ _ => 0
  | .lookupswitch _ _ => 0
  | _ => 1
/-- a row of the code is what the bytes say -/
def okX (pc : Nat) (e : Instr × Nat × Nat × Int32) : Bool := match e.1 with
  | .goto off => decide ((pc : Int) + off = (e.2.2.1 : Int))
  | .ifCond _ off => decide ((pc : Int) + off = (e.2.2.1 : Int))
  | .if_icmp _ off => decide ((pc : Int) + off = (e.2.2.1 : Int))
  | .if_acmp _ off => decide ((pc : Int) + off = (e.2.2.1 : Int))
  | .ifnull off => decide ((pc : Int) + off = (e.2.2.1 : Int))
  | .ifnonnull off => decide ((pc : Int) + off = (e.2.2.1 : Int))
  | .iconst n => decide (Int32.ofInt n = e.2.2.2)
  | .bipush n => decide ((Int8.ofInt n).toInt32 = e.2.2.2)
  | .sipush n => decide ((Int16.ofInt n).toInt32 = e.2.2.2)
  | .iinc _ n => decide (Int32.ofInt n = e.2.2.2)
  | _ => true
def okE (C : aM) (e : aE) : Bool := decide (decode C.2.1 e.1 = .ok (e.2.1, e.2.2.1 - e.1)) && (Nat.ble e.1 e.2.2.1 && ((Nat.beq (ilen e.2.1) 0 || Nat.beq (e.1 + ilen e.2.1) e.2.2.1) && okX e.1 e.2))
def OkE (C : aM) (pc : Nat) (e : Instr × Nat × Nat × Int32) : Prop := (ilen e.1 = 0 ∨ (decode C.2.1 pc = .ok (e.1, ilen e.1) ∧ e.2.1 = pc + ilen e.1)) ∧ decode C.2.1 pc = .ok (e.1, e.2.1 - pc) ∧ okX pc e = true
def OkM (C : aM) : Prop := ∀ pc e, look C pc = some e → OkE C pc e
theorem okE_spec {C : aM} {e : aE} (h : okE C e = true) : OkE C e.1 e.2 := by
  simp only [okE, Bool.and_eq_true, decide_eq_true_eq] at h
  obtain ⟨h1, h2, h3, h4⟩ := h
  refine ⟨?_, h1, h4⟩
  rcases Bool.or_eq_true_iff.mp h3 with h3 | h3
  · exact Or.inl (Nat.eq_of_beq_eq_true h3)
  · have h5 := Nat.eq_of_beq_eq_true h3
    refine Or.inr ⟨?_, h5.symm⟩
    rw [h1, show e.2.2.1 - e.1 = ilen e.2.1 by omega]
theorem lookIn_mem {pc : Nat} {l : List aE} {e : Instr × Nat × Nat × Int32} (h : lookIn pc l = some e) : (pc, e) ∈ l := by
  induction l with
  | nil => simp [lookIn] at h
  | cons a r ih =>
    cases hb : Nat.beq a.1 pc with
    | true =>
      have := Nat.eq_of_beq_eq_true hb
      simp only [lookIn, hb] at h
      cases h
      subst this
      exact List.mem_cons_self
    | false =>
      simp only [lookIn, hb] at h
      exact List.mem_cons_of_mem _ (ih h)
theorem nth_mem {c : List (List aE)} {n : Nat} {e : aE} (h : e ∈ nth c n) : ∃ r ∈ c, e ∈ r := by
  induction c generalizing n with
  | nil => simp [nth] at h
  | cons a r ih =>
    cases n with
    | zero => exact ⟨a, List.mem_cons_self, h⟩
    | succ n =>
      obtain ⟨q, hq, he⟩ := ih (n := n) h
      exact ⟨q, List.mem_cons_of_mem _ hq, he⟩
theorem okM_of {C : aM} (h : C.2.2.2.2.2.all (fun r => r.all (okE C)) = true) : OkM C := by
  intro pc e he
  obtain ⟨r, hr, he'⟩ := nth_mem (lookIn_mem he)
  exact okE_spec (e := (pc, e)) (List.all_eq_true.mp (List.all_eq_true.mp h r hr) _ he')
/-- a method's only word -/
def mW (C : aM) : Cond := match C.2.2.2.2.1 with
  | [] => .code C.1 C.2.1 C.2.2.1 C.2.2.2.1
  | hh => .codeWith C.1 C.2.1 C.2.2.1 C.2.2.2.1 hh
def rmD (d mc ms : Nat) : Room := { frames := d + 998, cells := mc, slots := ms, locals := 80 * d }
def QcM (G : aG) (Q : Option Value → aH → Prop) : Array Value → State → Outcome → State → Prop := fun _ st o t =>
  ∃ v h', o = .returned (Option.map (mv G) v) ∧ Q v h' ∧ Rep G h' t.heap ∧ va_F (aA G) st t
def XcM (G : aG) (X : String → aH → Prop) : String → State → State → Prop := fun E st t => ∃ h', X E h' ∧ Rep G h' t.heap ∧ va_F (aA G) st t
def PcM (S : aS) (G : aG) (args : List Value) (h : aH) : Array Value → State → Prop := fun v U => v = (args.map (mv G)).toArray ∧ Rep G h U.heap ∧ SW S G U
/-- A METHOD'S CONTRACT: called with these arguments in this heap, d frames deep at most, it makes k1 cells of k2 slots at most and ends so -/
def Sp (S : aS) (C : aM) (d k1 k2 : Nat) (args : List Value) (h : aH) (Q : Option Value → aH → Prop) (X : String → aH → Prop) : Prop :=
  ∀ (l : Launch) (G : aG), l.stackTraces = false → vx_Met l C.1 [mW C] (rmD d k1 k2) (PcM S G args h) (QcM G Q) (XcM G X) k1 k2 (aA G)
def lg : List (Option Value) → Nat → Option Value
  | [], _ => none
  | a :: _, 0 => a
  | _ :: r, n + 1 => lg r n
def HL (G : aG) (la : Array Slot) (nL : Nat) (ls : List (Option Value)) : Prop := la.size = nL ∧ lv_wf la ∧ ∀ (i : Nat) (v : Value), lg ls i = some v → la[i]? = some (Slot.val (mv G v))
def CX (C : aM) (l : Launch) (p : Program) (s : State) (m : MethodId) (meth : Method) (c : Code) : Prop :=
  p.tables.exec = Jvm.exec ∧ c.code = C.2.1 ∧ meth.sig.returnType = C.2.2.2.1 ∧ meth.locks = false ∧ c.maxLocals = C.2.2.1 ∧ s.vm.findClass C.1.cls = some m.cls ∧ meth.name = C.1.name ∧ l.stackTraces = false ∧ c.exceptionTable.toList = tableOf C.2.2.2.2.1 ∧ OkM C
/-- THE JUDGEMENT: from pc, with these locals, stack, heap, it ends with Q or throws with X -/
def AW (S : aS) (C : aM) (d : Nat) (Q : Option Value → aH → Prop) (X : String → aH → Prop) (k1 k2 pc : Nat) (ls : List (Option Value)) (st : List Value) (h : aH) : Prop :=
  ∀ (p : Program) (l : Launch) (e : Env) (s : State) (m : MethodId) (args : Array Value) (below : List Frame) (meth : Method) (c : Code) (H : Heap) (la : Array Slot) (locs : List Loc) (cells slots mc ms : Nat) (G : aG),
    CX C l p s m meth c → SW S G s → HL G la C.2.2.1 ls → Rep G h H → va_S (aA G) s.heap H locs → cells + k1 ≤ mc → slots + k2 ≤ ms →
    W p l e (rmD d mc ms) s m args below meth c H locs cells slots (vx_MQ below (QcM G Q) (XcM G X) args s mc ms (aA G)) (F0 m pc la (st.map (mv G)))
/-! ===== words that the printed parts speak of ===== -/
def isRefTy : FieldType → Bool
  | .object _ => true
  | .array _ => true
  | _ => false
def isIntTy : FieldType → Bool
  | .int => true
  | .boolean => true
  | _ => false
/-- a class of places: its words stand in the tables, its names are apart, its types are the table's -/
def aOk (r : vw_C × (Nat → FieldType)) : Prop := (∀ w ∈ u_ws r.1.1 r.1.2.1 r.1.2.2, w ∈ lw_tbl ∧ goodWord w = true) ∧ (∀ a, a < r.1.2.2 → ∀ b, b < r.1.2.2 → a ≠ b → (r.1.2.1 a).2.1 ≠ (r.1.2.1 b).2.1) ∧ ∀ k, k < r.1.2.2 → parseFieldDescriptor (r.1.2.1 k).2.2.1 = some (r.2 k)
/-- the pool entry idx of class own is the field k of the class ci -/
def LF (own : String) (idx ci k : Nat) (r : vw_C × (Nat → FieldType)) : Prop := aC[ci]? = some r ∧ aOk r ∧ k < r.1.2.2 ∧ ∃ ref : String, (Cond.fieldLink own idx ref (r.1.2.1 k).2.1 (r.1.2.1 k).2.2.1 ∈ lw_tbl) ∧
  (ref = (r.1.2.1 k).1 ∨ Cond.sameField ref (r.1.2.1 k).1 (r.1.2.1 k).2.1 (r.1.2.1 k).2.2.1 ∈ lw_tbl)
def LFi (own : String) (idx ci k : Nat) : Prop := ∃ r, LF own idx ci k r ∧ isIntTy (r.2 k) = true
def LFr (own : String) (idx ci k : Nat) : Prop := ∃ r, LF own idx ci k r ∧ isRefTy (r.2 k) = true
def LFp (own nm : String) (idx ci k : Nat) (r : vw_C × (Nat → FieldType)) : Prop := LF own idx ci k r ∧ ((r.1.2.1 k).2.2.2 = false ∨ ((r.1.2.1 k).2.2.2 = true ∧ nm = "<init>" ∧ (r.1.2.1 k).1 = own))
def LPi (own nm : String) (idx ci k : Nat) : Prop := ∃ r, LFp own nm idx ci k r ∧ r.2 k = .int
def LPz (own nm : String) (idx ci k : Nat) : Prop := ∃ r, LFp own nm idx ci k r ∧ r.2 k = .boolean
def LPr (own nm : String) (idx ci k : Nat) : Prop := ∃ r, LFp own nm idx ci k r ∧ isRefTy (r.2 k) = true
def okM (C : aM) : Bool := plainName C.1.cls && C.2.2.2.2.2.all (fun r => r.all (okE C))
def inX (w : Cond) : Prop := w ∈ lw_tbl ∧ (goodWord w || isNest w) = true
def inT (w : Cond) : Prop := w ∈ lw_tbl ∧ goodWord w = true
/-- a method as its callers know it -/
def MO (C : aM) (n : Nat) : Prop := C.2.2.2.2.1 = [] ∧ inT (.code C.1 C.2.1 C.2.2.1 C.2.2.2.1) ∧ inT (.initialized C.1.cls) ∧ (C.1.cls ≠ "java/lang/invoke/MethodHandle" ∧ C.1.cls ≠ "java/lang/invoke/VarHandle" ∧ (parseMethodDescriptor C.1.desc).map (fun d => d.parameters.length) = some n) ∧ C.2.2.1 ≤ 60
def MOv (C : aM) (n : Nat) : Prop := MO C n ∧ inT (.instanceMethod C.1) ∧ inT (.selects C.1.cls C.1 C.1)
def MOs (C : aM) (n : Nat) : Prop := MO C n ∧ inT (.static C.1)
def MOi (C : aM) (n : Nat) : Prop := MO C n ∧ inT (.instanceMethod C.1) ∧ C.1.name = "<init>" ∧ C.2.2.2.1 = none
def MOw (C : aM) (n : Nat) : Prop := C.2.2.2.2.1 ≠ [] ∧ inT (.codeWith C.1 C.2.1 C.2.2.1 C.2.2.2.1 C.2.2.2.2.1) ∧ inT (.initialized C.1.cls) ∧ (C.1.cls ≠ "java/lang/invoke/MethodHandle" ∧ C.1.cls ≠ "java/lang/invoke/VarHandle" ∧ (parseMethodDescriptor C.1.desc).map (fun d => d.parameters.length) = some n) ∧ C.2.2.1 ≤ 60 ∧ inT (.static C.1)
/-- the pool entry idx of class own is that method: one's own class's or a public one; a nest mate's private one -/
def LK (own : String) (idx : Nat) (C : aM) : Prop := inT (.methodLink own idx C.1)
def LKn (own : String) (idx : Nat) (C : aM) : Prop := ∃ host, Cond.methodLinkNest own idx C.1 host ∈ lw_tbl
/-! words by their chunk and place -/
theorem inD1 {w : Cond} {i : Nat} (h : tables_1_1[i]? = some w) : w ∈ lw_tbl := List.mem_append_right _ (show w ∈ tables_1 from List.mem_append_left _ (List.mem_of_getElem? h))
theorem inC1 {w : Cond} {i : Nat} (h : tables_1_1[i]? = some w) (g : goodWord w = true) : inT w := ⟨inD1 h, g⟩
theorem inD2 {w : Cond} {i : Nat} (h : tables_1_2[i]? = some w) : w ∈ lw_tbl := List.mem_append_right _ (show w ∈ tables_1 from List.mem_append_right _ (List.mem_append_left _ (List.mem_of_getElem? h)))
theorem inC2 {w : Cond} {i : Nat} (h : tables_1_2[i]? = some w) (g : goodWord w = true) : inT w := ⟨inD2 h, g⟩
theorem inD3 {w : Cond} {i : Nat} (h : tables_1_3[i]? = some w) : w ∈ lw_tbl := List.mem_append_right _ (show w ∈ tables_1 from List.mem_append_right _ (List.mem_append_right _ (List.mem_append_left _ (List.mem_of_getElem? h))))
theorem inC3 {w : Cond} {i : Nat} (h : tables_1_3[i]? = some w) (g : goodWord w = true) : inT w := ⟨inD3 h, g⟩
theorem inD4 {w : Cond} {i : Nat} (h : tables_1_4[i]? = some w) : w ∈ lw_tbl := List.mem_append_right _ (show w ∈ tables_1 from List.mem_append_right _ (List.mem_append_right _ (List.mem_append_right _ (List.mem_append_left _ (List.mem_of_getElem? h)))))
theorem inC4 {w : Cond} {i : Nat} (h : tables_1_4[i]? = some w) (g : goodWord w = true) : inT w := ⟨inD4 h, g⟩
theorem inD5 {w : Cond} {i : Nat} (h : tables_1_5[i]? = some w) : w ∈ lw_tbl := List.mem_append_right _ (show w ∈ tables_1 from List.mem_append_right _ (List.mem_append_right _ (List.mem_append_right _ (List.mem_append_right _ (List.mem_append_left _ (List.mem_of_getElem? h))))))
theorem inC5 {w : Cond} {i : Nat} (h : tables_1_5[i]? = some w) (g : goodWord w = true) : inT w := ⟨inD5 h, g⟩
theorem inD6 {w : Cond} {i : Nat} (h : tables_1_6[i]? = some w) : w ∈ lw_tbl := List.mem_append_right _ (show w ∈ tables_1 from List.mem_append_right _ (List.mem_append_right _ (List.mem_append_right _ (List.mem_append_right _ (List.mem_append_right _ (List.mem_append_left _ (List.mem_of_getElem? h)))))))
theorem inC6 {w : Cond} {i : Nat} (h : tables_1_6[i]? = some w) (g : goodWord w = true) : inT w := ⟨inD6 h, g⟩
theorem inD7 {w : Cond} {i : Nat} (h : tables_1_7[i]? = some w) : w ∈ lw_tbl := List.mem_append_right _ (show w ∈ tables_1 from List.mem_append_right _ (List.mem_append_right _ (List.mem_append_right _ (List.mem_append_right _ (List.mem_append_right _ (List.mem_append_right _ (List.mem_append_left _ (List.mem_of_getElem? h))))))))
theorem inC7 {w : Cond} {i : Nat} (h : tables_1_7[i]? = some w) (g : goodWord w = true) : inT w := ⟨inD7 h, g⟩
theorem inD8 {w : Cond} {i : Nat} (h : tables_1_8[i]? = some w) : w ∈ lw_tbl := List.mem_append_right _ (show w ∈ tables_1 from List.mem_append_right _ (List.mem_append_right _ (List.mem_append_right _ (List.mem_append_right _ (List.mem_append_right _ (List.mem_append_right _ (List.mem_append_right _ (List.mem_append_left _ (List.mem_of_getElem? h)))))))))
theorem inC8 {w : Cond} {i : Nat} (h : tables_1_8[i]? = some w) (g : goodWord w = true) : inT w := ⟨inD8 h, g⟩
theorem inD9 {w : Cond} {i : Nat} (h : tables_1_9[i]? = some w) : w ∈ lw_tbl := List.mem_append_right _ (show w ∈ tables_1 from List.mem_append_right _ (List.mem_append_right _ (List.mem_append_right _ (List.mem_append_right _ (List.mem_append_right _ (List.mem_append_right _ (List.mem_append_right _ (List.mem_append_right _ (List.mem_append_left _ (List.mem_of_getElem? h))))))))))
theorem inC9 {w : Cond} {i : Nat} (h : tables_1_9[i]? = some w) (g : goodWord w = true) : inT w := ⟨inD9 h, g⟩
theorem inD10 {w : Cond} {i : Nat} (h : tables_1_10[i]? = some w) : w ∈ lw_tbl := List.mem_append_right _ (show w ∈ tables_1 from List.mem_append_right _ (List.mem_append_right _ (List.mem_append_right _ (List.mem_append_right _ (List.mem_append_right _ (List.mem_append_right _ (List.mem_append_right _ (List.mem_append_right _ (List.mem_append_right _ (List.mem_of_getElem? h))))))))))
theorem inC10 {w : Cond} {i : Nat} (h : tables_1_10[i]? = some w) (g : goodWord w = true) : inT w := ⟨inD10 h, g⟩
theorem inT2 {w : Cond} {i : Nat} (h : (k2_sels lw_privs)[i]? = some w) (g : goodWord w = true) : inT w := ⟨List.mem_append_left _ (List.mem_of_getElem? h), g⟩
