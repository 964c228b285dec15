/-! ===== the rules of AW: locals ===== -/
def kill : Option Value → Option Value
  | some (.long _) => none
  | some (.double _) => none
  | o => o
def lset : List (Option Value) → Nat → Value → List (Option Value)
  | [], _, _ => []
  | _ :: r, 0, v => some v :: r
  | a :: r, 1, v => kill a :: lset r 0 v
  | a :: r, n + 2, v => a :: lset r (n + 1) v
def lset0 : List (Option Value) → Int64 → List (Option Value)
  | _ :: _ :: r, x => some (.long x) :: none :: r
  | _, _ => []
def lsetL (l : List (Option Value)) (i : Nat) (x : Int64) : List (Option Value) := match i, l with
  | 0, l => lset0 l x
  | _, [] => []
  | 1, a :: r => kill a :: lset0 r x
  | n + 2, a :: r => a :: lsetL r (n + 1) x
def notLong : Option Value → Bool
  | some (.long _) => false
  | some (.double _) => false
  | _ => true
theorem kill_id {a : Option Value} (h : notLong a = true) : kill a = a := by
  rcases a with _ | v
  · rfl
  · cases v <;> first | rfl | (cases h; done)
theorem kill_some {a : Option Value} {v : Value} (h : kill a = some v) : a = some v ∧ v.category = 1 := by
  rcases a with _ | x
  · cases h
  · cases x <;> first | (cases h; done) | (cases h; exact ⟨rfl, rfl⟩)
theorem lg_lset {ls : List (Option Value)} {i j : Nat} {v x : Value} (h : lg (lset ls i v) j = some x) : (j = i ∧ x = v) ∨ (j ≠ i ∧ lg ls j = some x ∧ ¬ (j + 1 = i ∧ x.category = 2)) := by
  induction ls generalizing i j with
  | nil => simp [lset, lg] at h
  | cons a r ih =>
    rcases i with _ | _ | i
    · rcases j with _ | j
      · simp only [lset, lg] at h
        cases h
        exact Or.inl ⟨rfl, rfl⟩
      · exact Or.inr ⟨by omega, h, by omega⟩
    · rcases j with _ | j
      · simp only [lset, lg] at h
        obtain ⟨h1, h2⟩ := kill_some h
        exact Or.inr ⟨by omega, h1, by omega⟩
      · simp only [lset, lg] at h
        rcases ih h with ⟨h1, h2⟩ | ⟨h1, h2, h3⟩
        · exact Or.inl ⟨by omega, h2⟩
        · exact Or.inr ⟨by omega, h2, by omega⟩
    · rcases j with _ | j
      · exact Or.inr ⟨by omega, h, by omega⟩
      · simp only [lset, lg] at h
        rcases ih h with ⟨h1, h2⟩ | ⟨h1, h2, h3⟩
        · exact Or.inl ⟨by omega, h2⟩
        · exact Or.inr ⟨by omega, h2, fun z => h3 ⟨by omega, z.2⟩⟩
theorem lg_lsetL {ls : List (Option Value)} {i j : Nat} {v : Int64} {x : Value} (h : lg (lsetL ls i v) j = some x) : (j = i ∧ x = .long v) ∨ (j ≠ i ∧ j ≠ i + 1 ∧ lg ls j = some x ∧ ¬ (j + 1 = i ∧ x.category = 2)) := by
  have base : ∀ {l : List (Option Value)} {j : Nat}, lg (lset0 l v) j = some x → (j = 0 ∧ x = .long v) ∨ (1 < j ∧ lg l j = some x) := by
    intro l j h
    rcases l with _ | ⟨a, _ | ⟨b, r⟩⟩
    · simp [lset0, lg] at h
    · simp [lset0, lg] at h
    · rcases j with _ | _ | j
      · simp only [lset0, lg] at h
        cases h
        exact Or.inl ⟨rfl, rfl⟩
      · simp [lset0, lg] at h
      · exact Or.inr ⟨by omega, h⟩
  induction i using Nat.strongRecOn generalizing ls j with
  | _ i ih =>
    rcases i with _ | _ | i
    · have h : lg (lset0 ls v) j = some x := by cases ls <;> exact h
      rcases base h with ⟨h1, h2⟩ | ⟨h1, h2⟩
      · exact Or.inl ⟨h1, h2⟩
      · exact Or.inr ⟨by omega, by omega, h2, by omega⟩
    · rcases ls with _ | ⟨a, r⟩
      · simp [lsetL, lg] at h
      · have h : lg (kill a :: lset0 r v) j = some x := h
        rcases j with _ | j
        · obtain ⟨h1, h2⟩ := kill_some h
          exact Or.inr ⟨by omega, by omega, h1, by omega⟩
        · rcases base (show lg (lset0 r v) j = some x from h) with ⟨h1, h2⟩ | ⟨h1, h2⟩
          · exact Or.inl ⟨by omega, h2⟩
          · exact Or.inr ⟨by omega, by omega, h2, by omega⟩
    · rcases ls with _ | ⟨a, r⟩
      · simp [lsetL, lg] at h
      · have h : lg (a :: lsetL r (i + 1) v) j = some x := by rw [lsetL] at h; exact h
        rcases j with _ | j
        · exact Or.inr ⟨by omega, by omega, h, by omega⟩
        · rcases ih (i + 1) (by omega) (show lg (lsetL r (i + 1) v) j = some x from h) with ⟨h1, h2⟩ | ⟨h1, h2, h3, h4⟩
          · exact Or.inl ⟨by omega, h2⟩
          · exact Or.inr ⟨by omega, by omega, h3, fun z => h4 ⟨by omega, z.2⟩⟩
def llO (G : aG) : Nat → List (Option Value) → List (Nat × Value)
  | _, [] => []
  | n, none :: r => llO G (n + 1) r
  | n, some v :: r => (n, mv G v) :: llO G (n + 1) r
theorem llO_mem {G : aG} {n : Nat} {ls : List (Option Value)} {q : Nat × Value} : q ∈ llO G n ls ↔ ∃ i v, lg ls i = some v ∧ q = (n + i, mv G v) := by
  induction ls generalizing n with
  | nil => simp [llO, lg]
  | cons a r ih =>
    have sh : (∃ i v, lg r i = some v ∧ q = (n + 1 + i, mv G v)) ↔ ∃ i v, lg (a :: r) (i + 1) = some v ∧ q = (n + (i + 1), mv G v) := by
      constructor
      · rintro ⟨i, v, h1, h2⟩
        exact ⟨i, v, h1, by rw [h2]; simp; omega⟩
      · rintro ⟨i, v, h1, h2⟩
        exact ⟨i, v, h1, by rw [h2]; simp; omega⟩
    cases a with
    | none =>
      rw [llO, ih, sh]
      constructor
      · rintro ⟨i, v, h⟩
        exact ⟨i + 1, v, h⟩
      · rintro ⟨i, v, h1, h2⟩
        rcases i with _ | i
        · simp [lg] at h1
        · exact ⟨i, v, h1, h2⟩
    | some x =>
      rw [llO, List.mem_cons, ih, sh]
      constructor
      · rintro (h | ⟨i, v, h⟩)
        · exact ⟨0, x, rfl, h⟩
        · exact ⟨i + 1, v, h⟩
      · rintro ⟨i, v, h1, h2⟩
        rcases i with _ | i
        · simp only [lg] at h1
          cases h1
          exact Or.inl h2
        · exact Or.inr ⟨i, v, h1, h2⟩
theorem HL.has {G : aG} {la : Array Slot} {nL : Nat} {ls : List (Option Value)} (h : HL G la nL ls) : lv_has la nL (llO G 0 ls) := by
  refine ⟨h.1, h.2.1, fun q hq => ?_⟩
  obtain ⟨i, v, h1, rfl⟩ := llO_mem.mp hq
  simpa using h.2.2 i v h1
theorem HL.st {G : aG} {la' : Array Slot} {nL i : Nat} {v : Value} {ls : List (Option Value)} (h : lv_has la' nL ((i, mv G v) :: (llO G 0 ls).filter (fun q => !(q.1 == i) && !(q.1 + 1 == i && q.2.category == 2)))) : HL G la' nL (lset ls i v) := by
  refine ⟨h.1, h.2.1, fun j x hj => ?_⟩
  rcases lg_lset hj with ⟨rfl, rfl⟩ | ⟨h1, h2, h3⟩
  · exact h.2.2 (j, mv G x) List.mem_cons_self
  · refine h.2.2 (j, mv G x) (List.mem_cons_of_mem _ (List.mem_filter.mpr ⟨llO_mem.mpr ⟨j, x, h2, by simp⟩, ?_⟩))
    simp only [Bool.and_eq_true, Bool.not_eq_true', beq_eq_false_iff_ne, ne_eq, Bool.and_eq_false_iff, mv_cat]
    refine ⟨h1, ?_⟩
    by_cases q : j + 1 = i
    · exact Or.inr fun z => h3 ⟨q, z⟩
    · exact Or.inl q
theorem HL.stL {G : aG} {la' : Array Slot} {nL i : Nat} {v : Int64} {ls : List (Option Value)} (h : lv_has la' nL ((i, .long v) :: (llO G 0 ls).filter (fun q => !(q.1 == i) && (!(q.1 == i + 1) && !(q.1 + 1 == i && q.2.category == 2))))) : HL G la' nL (lsetL ls i v) := by
  refine ⟨h.1, h.2.1, fun j x hj => ?_⟩
  rcases lg_lsetL hj with ⟨rfl, rfl⟩ | ⟨h1, h2, h3, h4⟩
  · exact h.2.2 (j, .long v) List.mem_cons_self
  · refine h.2.2 (j, mv G x) (List.mem_cons_of_mem _ (List.mem_filter.mpr ⟨llO_mem.mpr ⟨j, x, h3, by simp⟩, ?_⟩))
    simp only [Bool.and_eq_true, Bool.not_eq_true', beq_eq_false_iff_ne, ne_eq, Bool.and_eq_false_iff, mv_cat]
    refine ⟨h1, h2, ?_⟩
    by_cases q : j + 1 = i
    · exact Or.inr fun z => h4 ⟨q, z⟩
    · exact Or.inl q
theorem HL.sub {G : aG} {la : Array Slot} {nL : Nat} {ls ls' : List (Option Value)} (h : HL G la nL ls) (hs : ∀ (i : Nat) (v : Value), lg ls' i = some v → lg ls i = some v) : HL G la nL ls' := ⟨h.1, h.2.1, fun i v hi => h.2.2 i v (hs i v hi)⟩
/-- loads and stores: which local, of which kind (0 int, 1 reference, 2 long) -/
def ldI : Instr → Option (Nat × Nat)
  | .iload i => some (i, 0)
  | .iload_n i => some (i.val, 0)
  | .aload i => some (i, 1)
  | .aload_n i => some (i.val, 1)
  | .lload i => some (i, 2)
  | .lload_n i => some (i.val, 2)
  | _ => none
def stI : Instr → Option (Nat × Nat)
  | .istore i => some (i, 0)
  | .istore_n i => some (i.val, 0)
  | .astore i => some (i, 1)
  | .astore_n i => some (i.val, 1)
  | .lstore i => some (i, 2)
  | .lstore_n i => some (i.val, 2)
  | _ => none
def vty : Value → Nat
  | .int _ => 0
  | .ref _ => 1
  | .null => 1
  | .long _ => 2
  | _ => 3
section A5
variable {S : aS} {C : aM} {d : Nat} {Q : Option Value → aH → Prop} {X : String → aH → Prop} {k1 k2 pc np tgt : Nat} {w : Int32} {ls ls' r : List (Option Value)} {st st' : List Value} {h : aH} {ins : Instr}
theorem a_ld {i t : Nat} {v : Value} (hC : look C pc = some (ins, np, tgt, w)) (hi : ldI ins = some (i, t)) (hl : lg ls i = some v) (ht : vty v = t) (k : AW S C d Q X k1 k2 np ls (v :: st) h) : AW S C d Q X k1 k2 pc ls st h := by
  intro p l e s m args below meth c H la locs cells slots mc ms G CC hS hL hR hF h1 h2
  have K := k p l e s m args below meth c H la locs cells slots mc ms G CC hS hL hR hF h1 h2
  have hg := hL.2.2 i v hl
  have hx := CC.1
  have hb := CC.2.1
  have hO := CC.2.2.2.2.2.2.2.2.2
  clear CC
  unfold ldI at hi
  split at hi <;> first | (cases hi; done) | (cases hi; obtain ⟨hd, rfl, -⟩ := okd hO hC rfl; cases v <;> first | (cases ht; done) | skip)
  · exact lv_iload hx hb hd hg K
  · exact lv_iload_n hx hb hd rfl hg K
  · exact lv_aloadN hx hb hd hg K
  · exact lv_aload hx hb hd hg K
  · exact lv_aload_nN hx hb hd rfl hg K
  · exact lv_aload_n hx hb hd rfl hg K
  · exact lv_lload hx hb hd hg K
  · exact lv_lload_n hx hb hd rfl hg K
theorem a_st {i t : Nat} {v : Value} (hC : look C pc = some (ins, np, tgt, w)) (hi : stI ins = some (i, t)) (ht : vty v = t) (ht2 : t < 2) (hn : i < C.2.2.1) (k : AW S C d Q X k1 k2 np (lset ls i v) st h) : AW S C d Q X k1 k2 pc ls (v :: st) h := by
  intro p l e s m args below meth c H la locs cells slots mc ms G CC hS hL hR hF h1 h2
  have K := fun la' q => k p l e s m args below meth c H la' locs cells slots mc ms G CC hS q hR hF h1 h2
  have hx := CC.1
  have hb := CC.2.1
  have hO := CC.2.2.2.2.2.2.2.2.2
  have hh := hL.has
  clear CC
  unfold stI at hi
  split at hi <;> first | (cases hi; done) | (cases hi; obtain ⟨hd, rfl, -⟩ := okd hO hC rfl; cases v <;> first | (cases ht; done) | skip)
  · exact lv_istore hx hb hd hh hn rfl (fun la' q => K la' (HL.st q))
  · exact lv_istore_n hx hb hd rfl hh hn rfl (fun la' q => K la' (HL.st q))
  · exact lv_astoreN hx hb hd hh hn rfl (fun la' q => K la' (HL.st q))
  · exact lv_astore hx hb hd hh hn rfl (fun la' q => K la' (HL.st q))
  · exact lv_astore_nN hx hb hd rfl hh hn rfl (fun la' q => K la' (HL.st q))
  · exact lv_astore_n hx hb hd rfl hh hn rfl (fun la' q => K la' (HL.st q))
  · omega
  · omega
theorem a_stL {i : Nat} {v : Int64} (hC : look C pc = some (ins, np, tgt, w)) (hi : stI ins = some (i, 2)) (hn : i + 1 < C.2.2.1) (k : AW S C d Q X k1 k2 np (lsetL ls i v) st h) : AW S C d Q X k1 k2 pc ls (.long v :: st) h := by
  intro p l e s m args below meth c H la locs cells slots mc ms G CC hS hL hR hF h1 h2
  have K := fun la' q => k p l e s m args below meth c H la' locs cells slots mc ms G CC hS q hR hF h1 h2
  have hx := CC.1
  have hb := CC.2.1
  have hO := CC.2.2.2.2.2.2.2.2.2
  have hh := hL.has
  clear CC
  unfold stI at hi
  split at hi <;> first | (cases hi; done) | (cases hi; obtain ⟨hd, rfl, -⟩ := okd hO hC rfl)
  · exact lv_lstore hx hb hd hh hn rfl (fun la' q => K la' (HL.stL q))
  · exact lv_lstore_n hx hb hd rfl hh hn rfl (fun la' q => K la' (HL.stL q))
theorem a_inc {i : Nat} {n : Int} {x : Int32} (hC : look C pc = some (.iinc i n, np, tgt, w)) (hl : lg ls i = some (.int x)) (hn : i < C.2.2.1) (k : AW S C d Q X k1 k2 np (lset ls i (.int (x + w))) st h) : AW S C d Q X k1 k2 pc ls st h := by
  intro p l e s m args below meth c H la locs cells slots mc ms G CC hS hL hR hF h1 h2
  obtain ⟨hd, rfl, ho⟩ := okd CC.2.2.2.2.2.2.2.2.2 hC rfl
  obtain ⟨kk, hk⟩ := List.getElem?_of_mem ((llO_mem (G := G) (n := 0) (ls := ls) (q := (i, .int x))).mpr ⟨i, .int x, hl, by simp [mv]⟩)
  exact lv_iinc CC.1 CC.2.1 hd hL.has hk (by rw [of_decide_eq_true ho]) hn rfl (fun la' q => k p l e s m args below meth c H la' locs cells slots mc ms G CC hS (HL.st q) hR hF h1 h2)
/-- forget locals -/
theorem a_sub (hs : ∀ (i : Nat) (v : Value), lg ls' i = some v → lg ls i = some v) (k : AW S C d Q X k1 k2 pc ls' st h) : AW S C d Q X k1 k2 pc ls st h := by
  intro p l e s m args below meth c H la locs cells slots mc ms G CC hS hL hR hF h1 h2
  exact k p l e s m args below meth c H la locs cells slots mc ms G CC hS (hL.sub hs) hR hF h1 h2
def lsub : List (Option Value) → List (Option Value) → Prop
  | [], _ => True
  | none :: r, _ :: r' => lsub r r'
  | some v :: r, o :: r' => o = some v ∧ lsub r r'
  | _ :: _, [] => False
theorem lsub_lg {ls ls' : List (Option Value)} (h : lsub ls' ls) : ∀ (i : Nat) (v : Value), lg ls' i = some v → lg ls i = some v := by
  induction ls' generalizing ls with
  | nil => intro i v hv; simp [lg] at hv
  | cons a r ih =>
    intro i v hv
    cases ls with
    | nil => cases a <;> exact False.elim h
    | cons b r' =>
      cases a with
      | none =>
        rcases i with _ | i
        · simp [lg] at hv
        · exact ih h i v hv
      | some x =>
        obtain ⟨rfl, h⟩ := h
        rcases i with _ | i
        · exact hv
        · exact ih h i v hv
theorem a_less (k : AW S C d Q X k1 k2 pc ls' st h) (hs : lsub ls' ls) : AW S C d Q X k1 k2 pc ls st h := a_sub (lsub_lg hs) k
theorem a_l0 {t : Nat} {v : Value} (hC : look C pc = some (ins, np, tgt, w)) (hi : ldI ins = some (0, t)) (ht : vty v = t) (k : AW S C d Q X k1 k2 np (some v :: r) (v :: st) h) : AW S C d Q X k1 k2 pc (some v :: r) st h := a_ld hC hi rfl ht k
theorem a_s0 {t : Nat} {v : Value} {oo : Option Value} (hC : look C pc = some (ins, np, tgt, w)) (hi : stI ins = some (0, t)) (ht : vty v = t) (ht2 : Nat.blt t 2 = true) (hn : Nat.ble 1 C.2.2.1 = true) (k : AW S C d Q X k1 k2 np (some v :: r) st h) : AW S C d Q X k1 k2 pc (oo :: r) (v :: st) h := a_st hC hi ht (Nat.le_of_ble_eq_true ht2) (Nat.le_of_ble_eq_true hn) (k)
theorem a_sL0 {v : Int64} {oo o2 : Option Value} (hC : look C pc = some (ins, np, tgt, w)) (hi : stI ins = some (0, 2)) (hn : Nat.ble 2 C.2.2.1 = true) (k : AW S C d Q X k1 k2 np (some (.long v) :: none :: r) st h) : AW S C d Q X k1 k2 pc (oo :: o2 :: r) (.long v :: st) h := a_stL hC hi (Nat.le_of_ble_eq_true hn) (k)
theorem a_i0 {n : Int} {x : Int32} (hC : look C pc = some (.iinc 0 n, np, tgt, w)) (hn : Nat.ble 1 C.2.2.1 = true) (k : AW S C d Q X k1 k2 np (some (.int (x + w)) :: r) st h) : AW S C d Q X k1 k2 pc (some (.int x) :: r) st h := a_inc hC rfl (Nat.le_of_ble_eq_true hn) (k)
theorem a_l1 {a0 : Option Value} {t : Nat} {v : Value} (hC : look C pc = some (ins, np, tgt, w)) (hi : ldI ins = some (1, t)) (ht : vty v = t) (k : AW S C d Q X k1 k2 np (a0 :: some v :: r) (v :: st) h) : AW S C d Q X k1 k2 pc (a0 :: some v :: r) st h := a_ld hC hi rfl ht k
theorem a_s1 {a0 : Option Value} {t : Nat} {v : Value} {oo : Option Value} (hC : look C pc = some (ins, np, tgt, w)) (hi : stI ins = some (1, t)) (ht : vty v = t) (ht2 : Nat.blt t 2 = true) (hl : notLong a0 = true) (hn : Nat.ble 2 C.2.2.1 = true) (k : AW S C d Q X k1 k2 np (a0 :: some v :: r) st h) : AW S C d Q X k1 k2 pc (a0 :: oo :: r) (v :: st) h := a_st hC hi ht (Nat.le_of_ble_eq_true ht2) (Nat.le_of_ble_eq_true hn) (by rw [show lset (a0 :: oo :: r) 1 v = a0 :: some v :: r by simp [lset, kill_id hl]]; exact k)
theorem a_sL1 {a0 : Option Value} {v : Int64} {oo o2 : Option Value} (hC : look C pc = some (ins, np, tgt, w)) (hi : stI ins = some (1, 2)) (hl : notLong a0 = true) (hn : Nat.ble 3 C.2.2.1 = true) (k : AW S C d Q X k1 k2 np (a0 :: some (.long v) :: none :: r) st h) : AW S C d Q X k1 k2 pc (a0 :: oo :: o2 :: r) (.long v :: st) h := a_stL hC hi (Nat.le_of_ble_eq_true hn) (by rw [show lsetL (a0 :: oo :: o2 :: r) 1 v = a0 :: some (.long v) :: none :: r by simp [lsetL, lset0, kill_id hl]]; exact k)
theorem a_i1 {a0 : Option Value} {n : Int} {x : Int32} (hC : look C pc = some (.iinc 1 n, np, tgt, w)) (hl : notLong a0 = true) (hn : Nat.ble 2 C.2.2.1 = true) (k : AW S C d Q X k1 k2 np (a0 :: some (.int (x + w)) :: r) st h) : AW S C d Q X k1 k2 pc (a0 :: some (.int x) :: r) st h := a_inc hC rfl (Nat.le_of_ble_eq_true hn) (by rw [show lset (a0 :: some (.int x) :: r) 1 (.int (x + w)) = a0 :: some (.int (x + w)) :: r by simp [lset, kill_id hl]]; exact k)
theorem a_l2 {a0 a1 : Option Value} {t : Nat} {v : Value} (hC : look C pc = some (ins, np, tgt, w)) (hi : ldI ins = some (2, t)) (ht : vty v = t) (k : AW S C d Q X k1 k2 np (a0 :: a1 :: some v :: r) (v :: st) h) : AW S C d Q X k1 k2 pc (a0 :: a1 :: some v :: r) st h := a_ld hC hi rfl ht k
theorem a_s2 {a0 a1 : Option Value} {t : Nat} {v : Value} {oo : Option Value} (hC : look C pc = some (ins, np, tgt, w)) (hi : stI ins = some (2, t)) (ht : vty v = t) (ht2 : Nat.blt t 2 = true) (hl : notLong a1 = true) (hn : Nat.ble 3 C.2.2.1 = true) (k : AW S C d Q X k1 k2 np (a0 :: a1 :: some v :: r) st h) : AW S C d Q X k1 k2 pc (a0 :: a1 :: oo :: r) (v :: st) h := a_st hC hi ht (Nat.le_of_ble_eq_true ht2) (Nat.le_of_ble_eq_true hn) (by rw [show lset (a0 :: a1 :: oo :: r) 2 v = a0 :: a1 :: some v :: r by simp [lset, kill_id hl]]; exact k)
theorem a_sL2 {a0 a1 : Option Value} {v : Int64} {oo o2 : Option Value} (hC : look C pc = some (ins, np, tgt, w)) (hi : stI ins = some (2, 2)) (hl : notLong a1 = true) (hn : Nat.ble 4 C.2.2.1 = true) (k : AW S C d Q X k1 k2 np (a0 :: a1 :: some (.long v) :: none :: r) st h) : AW S C d Q X k1 k2 pc (a0 :: a1 :: oo :: o2 :: r) (.long v :: st) h := a_stL hC hi (Nat.le_of_ble_eq_true hn) (by rw [show lsetL (a0 :: a1 :: oo :: o2 :: r) 2 v = a0 :: a1 :: some (.long v) :: none :: r by simp [lsetL, lset0, kill_id hl]]; exact k)
theorem a_i2 {a0 a1 : Option Value} {n : Int} {x : Int32} (hC : look C pc = some (.iinc 2 n, np, tgt, w)) (hl : notLong a1 = true) (hn : Nat.ble 3 C.2.2.1 = true) (k : AW S C d Q X k1 k2 np (a0 :: a1 :: some (.int (x + w)) :: r) st h) : AW S C d Q X k1 k2 pc (a0 :: a1 :: some (.int x) :: r) st h := a_inc hC rfl (Nat.le_of_ble_eq_true hn) (by rw [show lset (a0 :: a1 :: some (.int x) :: r) 2 (.int (x + w)) = a0 :: a1 :: some (.int (x + w)) :: r by simp [lset, kill_id hl]]; exact k)
theorem a_l3 {a0 a1 a2 : Option Value} {t : Nat} {v : Value} (hC : look C pc = some (ins, np, tgt, w)) (hi : ldI ins = some (3, t)) (ht : vty v = t) (k : AW S C d Q X k1 k2 np (a0 :: a1 :: a2 :: some v :: r) (v :: st) h) : AW S C d Q X k1 k2 pc (a0 :: a1 :: a2 :: some v :: r) st h := a_ld hC hi rfl ht k
theorem a_s3 {a0 a1 a2 : Option Value} {t : Nat} {v : Value} {oo : Option Value} (hC : look C pc = some (ins, np, tgt, w)) (hi : stI ins = some (3, t)) (ht : vty v = t) (ht2 : Nat.blt t 2 = true) (hl : notLong a2 = true) (hn : Nat.ble 4 C.2.2.1 = true) (k : AW S C d Q X k1 k2 np (a0 :: a1 :: a2 :: some v :: r) st h) : AW S C d Q X k1 k2 pc (a0 :: a1 :: a2 :: oo :: r) (v :: st) h := a_st hC hi ht (Nat.le_of_ble_eq_true ht2) (Nat.le_of_ble_eq_true hn) (by rw [show lset (a0 :: a1 :: a2 :: oo :: r) 3 v = a0 :: a1 :: a2 :: some v :: r by simp [lset, kill_id hl]]; exact k)
theorem a_sL3 {a0 a1 a2 : Option Value} {v : Int64} {oo o2 : Option Value} (hC : look C pc = some (ins, np, tgt, w)) (hi : stI ins = some (3, 2)) (hl : notLong a2 = true) (hn : Nat.ble 5 C.2.2.1 = true) (k : AW S C d Q X k1 k2 np (a0 :: a1 :: a2 :: some (.long v) :: none :: r) st h) : AW S C d Q X k1 k2 pc (a0 :: a1 :: a2 :: oo :: o2 :: r) (.long v :: st) h := a_stL hC hi (Nat.le_of_ble_eq_true hn) (by rw [show lsetL (a0 :: a1 :: a2 :: oo :: o2 :: r) 3 v = a0 :: a1 :: a2 :: some (.long v) :: none :: r by simp [lsetL, lset0, kill_id hl]]; exact k)
theorem a_i3 {a0 a1 a2 : Option Value} {n : Int} {x : Int32} (hC : look C pc = some (.iinc 3 n, np, tgt, w)) (hl : notLong a2 = true) (hn : Nat.ble 4 C.2.2.1 = true) (k : AW S C d Q X k1 k2 np (a0 :: a1 :: a2 :: some (.int (x + w)) :: r) st h) : AW S C d Q X k1 k2 pc (a0 :: a1 :: a2 :: some (.int x) :: r) st h := a_inc hC rfl (Nat.le_of_ble_eq_true hn) (by rw [show lset (a0 :: a1 :: a2 :: some (.int x) :: r) 3 (.int (x + w)) = a0 :: a1 :: a2 :: some (.int (x + w)) :: r by simp [lset, kill_id hl]]; exact k)
theorem a_l4 {a0 a1 a2 a3 : Option Value} {t : Nat} {v : Value} (hC : look C pc = some (ins, np, tgt, w)) (hi : ldI ins = some (4, t)) (ht : vty v = t) (k : AW S C d Q X k1 k2 np (a0 :: a1 :: a2 :: a3 :: some v :: r) (v :: st) h) : AW S C d Q X k1 k2 pc (a0 :: a1 :: a2 :: a3 :: some v :: r) st h := a_ld hC hi rfl ht k
theorem a_s4 {a0 a1 a2 a3 : Option Value} {t : Nat} {v : Value} {oo : Option Value} (hC : look C pc = some (ins, np, tgt, w)) (hi : stI ins = some (4, t)) (ht : vty v = t) (ht2 : Nat.blt t 2 = true) (hl : notLong a3 = true) (hn : Nat.ble 5 C.2.2.1 = true) (k : AW S C d Q X k1 k2 np (a0 :: a1 :: a2 :: a3 :: some v :: r) st h) : AW S C d Q X k1 k2 pc (a0 :: a1 :: a2 :: a3 :: oo :: r) (v :: st) h := a_st hC hi ht (Nat.le_of_ble_eq_true ht2) (Nat.le_of_ble_eq_true hn) (by rw [show lset (a0 :: a1 :: a2 :: a3 :: oo :: r) 4 v = a0 :: a1 :: a2 :: a3 :: some v :: r by simp [lset, kill_id hl]]; exact k)
theorem a_sL4 {a0 a1 a2 a3 : Option Value} {v : Int64} {oo o2 : Option Value} (hC : look C pc = some (ins, np, tgt, w)) (hi : stI ins = some (4, 2)) (hl : notLong a3 = true) (hn : Nat.ble 6 C.2.2.1 = true) (k : AW S C d Q X k1 k2 np (a0 :: a1 :: a2 :: a3 :: some (.long v) :: none :: r) st h) : AW S C d Q X k1 k2 pc (a0 :: a1 :: a2 :: a3 :: oo :: o2 :: r) (.long v :: st) h := a_stL hC hi (Nat.le_of_ble_eq_true hn) (by rw [show lsetL (a0 :: a1 :: a2 :: a3 :: oo :: o2 :: r) 4 v = a0 :: a1 :: a2 :: a3 :: some (.long v) :: none :: r by simp [lsetL, lset0, kill_id hl]]; exact k)
theorem a_i4 {a0 a1 a2 a3 : Option Value} {n : Int} {x : Int32} (hC : look C pc = some (.iinc 4 n, np, tgt, w)) (hl : notLong a3 = true) (hn : Nat.ble 5 C.2.2.1 = true) (k : AW S C d Q X k1 k2 np (a0 :: a1 :: a2 :: a3 :: some (.int (x + w)) :: r) st h) : AW S C d Q X k1 k2 pc (a0 :: a1 :: a2 :: a3 :: some (.int x) :: r) st h := a_inc hC rfl (Nat.le_of_ble_eq_true hn) (by rw [show lset (a0 :: a1 :: a2 :: a3 :: some (.int x) :: r) 4 (.int (x + w)) = a0 :: a1 :: a2 :: a3 :: some (.int (x + w)) :: r by simp [lset, kill_id hl]]; exact k)
theorem a_l5 {a0 a1 a2 a3 a4 : Option Value} {t : Nat} {v : Value} (hC : look C pc = some (ins, np, tgt, w)) (hi : ldI ins = some (5, t)) (ht : vty v = t) (k : AW S C d Q X k1 k2 np (a0 :: a1 :: a2 :: a3 :: a4 :: some v :: r) (v :: st) h) : AW S C d Q X k1 k2 pc (a0 :: a1 :: a2 :: a3 :: a4 :: some v :: r) st h := a_ld hC hi rfl ht k
theorem a_s5 {a0 a1 a2 a3 a4 : Option Value} {t : Nat} {v : Value} {oo : Option Value} (hC : look C pc = some (ins, np, tgt, w)) (hi : stI ins = some (5, t)) (ht : vty v = t) (ht2 : Nat.blt t 2 = true) (hl : notLong a4 = true) (hn : Nat.ble 6 C.2.2.1 = true) (k : AW S C d Q X k1 k2 np (a0 :: a1 :: a2 :: a3 :: a4 :: some v :: r) st h) : AW S C d Q X k1 k2 pc (a0 :: a1 :: a2 :: a3 :: a4 :: oo :: r) (v :: st) h := a_st hC hi ht (Nat.le_of_ble_eq_true ht2) (Nat.le_of_ble_eq_true hn) (by rw [show lset (a0 :: a1 :: a2 :: a3 :: a4 :: oo :: r) 5 v = a0 :: a1 :: a2 :: a3 :: a4 :: some v :: r by simp [lset, kill_id hl]]; exact k)
theorem a_sL5 {a0 a1 a2 a3 a4 : Option Value} {v : Int64} {oo o2 : Option Value} (hC : look C pc = some (ins, np, tgt, w)) (hi : stI ins = some (5, 2)) (hl : notLong a4 = true) (hn : Nat.ble 7 C.2.2.1 = true) (k : AW S C d Q X k1 k2 np (a0 :: a1 :: a2 :: a3 :: a4 :: some (.long v) :: none :: r) st h) : AW S C d Q X k1 k2 pc (a0 :: a1 :: a2 :: a3 :: a4 :: oo :: o2 :: r) (.long v :: st) h := a_stL hC hi (Nat.le_of_ble_eq_true hn) (by rw [show lsetL (a0 :: a1 :: a2 :: a3 :: a4 :: oo :: o2 :: r) 5 v = a0 :: a1 :: a2 :: a3 :: a4 :: some (.long v) :: none :: r by simp [lsetL, lset0, kill_id hl]]; exact k)
theorem a_i5 {a0 a1 a2 a3 a4 : Option Value} {n : Int} {x : Int32} (hC : look C pc = some (.iinc 5 n, np, tgt, w)) (hl : notLong a4 = true) (hn : Nat.ble 6 C.2.2.1 = true) (k : AW S C d Q X k1 k2 np (a0 :: a1 :: a2 :: a3 :: a4 :: some (.int (x + w)) :: r) st h) : AW S C d Q X k1 k2 pc (a0 :: a1 :: a2 :: a3 :: a4 :: some (.int x) :: r) st h := a_inc hC rfl (Nat.le_of_ble_eq_true hn) (by rw [show lset (a0 :: a1 :: a2 :: a3 :: a4 :: some (.int x) :: r) 5 (.int (x + w)) = a0 :: a1 :: a2 :: a3 :: a4 :: some (.int (x + w)) :: r by simp [lset, kill_id hl]]; exact k)
theorem a_l6 {a0 a1 a2 a3 a4 a5 : Option Value} {t : Nat} {v : Value} (hC : look C pc = some (ins, np, tgt, w)) (hi : ldI ins = some (6, t)) (ht : vty v = t) (k : AW S C d Q X k1 k2 np (a0 :: a1 :: a2 :: a3 :: a4 :: a5 :: some v :: r) (v :: st) h) : AW S C d Q X k1 k2 pc (a0 :: a1 :: a2 :: a3 :: a4 :: a5 :: some v :: r) st h := a_ld hC hi rfl ht k
theorem a_s6 {a0 a1 a2 a3 a4 a5 : Option Value} {t : Nat} {v : Value} {oo : Option Value} (hC : look C pc = some (ins, np, tgt, w)) (hi : stI ins = some (6, t)) (ht : vty v = t) (ht2 : Nat.blt t 2 = true) (hl : notLong a5 = true) (hn : Nat.ble 7 C.2.2.1 = true) (k : AW S C d Q X k1 k2 np (a0 :: a1 :: a2 :: a3 :: a4 :: a5 :: some v :: r) st h) : AW S C d Q X k1 k2 pc (a0 :: a1 :: a2 :: a3 :: a4 :: a5 :: oo :: r) (v :: st) h := a_st hC hi ht (Nat.le_of_ble_eq_true ht2) (Nat.le_of_ble_eq_true hn) (by rw [show lset (a0 :: a1 :: a2 :: a3 :: a4 :: a5 :: oo :: r) 6 v = a0 :: a1 :: a2 :: a3 :: a4 :: a5 :: some v :: r by simp [lset, kill_id hl]]; exact k)
theorem a_sL6 {a0 a1 a2 a3 a4 a5 : Option Value} {v : Int64} {oo o2 : Option Value} (hC : look C pc = some (ins, np, tgt, w)) (hi : stI ins = some (6, 2)) (hl : notLong a5 = true) (hn : Nat.ble 8 C.2.2.1 = true) (k : AW S C d Q X k1 k2 np (a0 :: a1 :: a2 :: a3 :: a4 :: a5 :: some (.long v) :: none :: r) st h) : AW S C d Q X k1 k2 pc (a0 :: a1 :: a2 :: a3 :: a4 :: a5 :: oo :: o2 :: r) (.long v :: st) h := a_stL hC hi (Nat.le_of_ble_eq_true hn) (by rw [show lsetL (a0 :: a1 :: a2 :: a3 :: a4 :: a5 :: oo :: o2 :: r) 6 v = a0 :: a1 :: a2 :: a3 :: a4 :: a5 :: some (.long v) :: none :: r by simp [lsetL, lset0, kill_id hl]]; exact k)
theorem a_i6 {a0 a1 a2 a3 a4 a5 : Option Value} {n : Int} {x : Int32} (hC : look C pc = some (.iinc 6 n, np, tgt, w)) (hl : notLong a5 = true) (hn : Nat.ble 7 C.2.2.1 = true) (k : AW S C d Q X k1 k2 np (a0 :: a1 :: a2 :: a3 :: a4 :: a5 :: some (.int (x + w)) :: r) st h) : AW S C d Q X k1 k2 pc (a0 :: a1 :: a2 :: a3 :: a4 :: a5 :: some (.int x) :: r) st h := a_inc hC rfl (Nat.le_of_ble_eq_true hn) (by rw [show lset (a0 :: a1 :: a2 :: a3 :: a4 :: a5 :: some (.int x) :: r) 6 (.int (x + w)) = a0 :: a1 :: a2 :: a3 :: a4 :: a5 :: some (.int (x + w)) :: r by simp [lset, kill_id hl]]; exact k)
theorem a_l7 {a0 a1 a2 a3 a4 a5 a6 : Option Value} {t : Nat} {v : Value} (hC : look C pc = some (ins, np, tgt, w)) (hi : ldI ins = some (7, t)) (ht : vty v = t) (k : AW S C d Q X k1 k2 np (a0 :: a1 :: a2 :: a3 :: a4 :: a5 :: a6 :: some v :: r) (v :: st) h) : AW S C d Q X k1 k2 pc (a0 :: a1 :: a2 :: a3 :: a4 :: a5 :: a6 :: some v :: r) st h := a_ld hC hi rfl ht k
theorem a_s7 {a0 a1 a2 a3 a4 a5 a6 : Option Value} {t : Nat} {v : Value} {oo : Option Value} (hC : look C pc = some (ins, np, tgt, w)) (hi : stI ins = some (7, t)) (ht : vty v = t) (ht2 : Nat.blt t 2 = true) (hl : notLong a6 = true) (hn : Nat.ble 8 C.2.2.1 = true) (k : AW S C d Q X k1 k2 np (a0 :: a1 :: a2 :: a3 :: a4 :: a5 :: a6 :: some v :: r) st h) : AW S C d Q X k1 k2 pc (a0 :: a1 :: a2 :: a3 :: a4 :: a5 :: a6 :: oo :: r) (v :: st) h := a_st hC hi ht (Nat.le_of_ble_eq_true ht2) (Nat.le_of_ble_eq_true hn) (by rw [show lset (a0 :: a1 :: a2 :: a3 :: a4 :: a5 :: a6 :: oo :: r) 7 v = a0 :: a1 :: a2 :: a3 :: a4 :: a5 :: a6 :: some v :: r by simp [lset, kill_id hl]]; exact k)
theorem a_sL7 {a0 a1 a2 a3 a4 a5 a6 : Option Value} {v : Int64} {oo o2 : Option Value} (hC : look C pc = some (ins, np, tgt, w)) (hi : stI ins = some (7, 2)) (hl : notLong a6 = true) (hn : Nat.ble 9 C.2.2.1 = true) (k : AW S C d Q X k1 k2 np (a0 :: a1 :: a2 :: a3 :: a4 :: a5 :: a6 :: some (.long v) :: none :: r) st h) : AW S C d Q X k1 k2 pc (a0 :: a1 :: a2 :: a3 :: a4 :: a5 :: a6 :: oo :: o2 :: r) (.long v :: st) h := a_stL hC hi (Nat.le_of_ble_eq_true hn) (by rw [show lsetL (a0 :: a1 :: a2 :: a3 :: a4 :: a5 :: a6 :: oo :: o2 :: r) 7 v = a0 :: a1 :: a2 :: a3 :: a4 :: a5 :: a6 :: some (.long v) :: none :: r by simp [lsetL, lset0, kill_id hl]]; exact k)
theorem a_i7 {a0 a1 a2 a3 a4 a5 a6 : Option Value} {n : Int} {x : Int32} (hC : look C pc = some (.iinc 7 n, np, tgt, w)) (hl : notLong a6 = true) (hn : Nat.ble 8 C.2.2.1 = true) (k : AW S C d Q X k1 k2 np (a0 :: a1 :: a2 :: a3 :: a4 :: a5 :: a6 :: some (.int (x + w)) :: r) st h) : AW S C d Q X k1 k2 pc (a0 :: a1 :: a2 :: a3 :: a4 :: a5 :: a6 :: some (.int x) :: r) st h := a_inc hC rfl (Nat.le_of_ble_eq_true hn) (by rw [show lset (a0 :: a1 :: a2 :: a3 :: a4 :: a5 :: a6 :: some (.int x) :: r) 7 (.int (x + w)) = a0 :: a1 :: a2 :: a3 :: a4 :: a5 :: a6 :: some (.int (x + w)) :: r by simp [lset, kill_id hl]]; exact k)
theorem a_l8 {a0 a1 a2 a3 a4 a5 a6 a7 : Option Value} {t : Nat} {v : Value} (hC : look C pc = some (ins, np, tgt, w)) (hi : ldI ins = some (8, t)) (ht : vty v = t) (k : AW S C d Q X k1 k2 np (a0 :: a1 :: a2 :: a3 :: a4 :: a5 :: a6 :: a7 :: some v :: r) (v :: st) h) : AW S C d Q X k1 k2 pc (a0 :: a1 :: a2 :: a3 :: a4 :: a5 :: a6 :: a7 :: some v :: r) st h := a_ld hC hi rfl ht k
theorem a_s8 {a0 a1 a2 a3 a4 a5 a6 a7 : Option Value} {t : Nat} {v : Value} {oo : Option Value} (hC : look C pc = some (ins, np, tgt, w)) (hi : stI ins = some (8, t)) (ht : vty v = t) (ht2 : Nat.blt t 2 = true) (hl : notLong a7 = true) (hn : Nat.ble 9 C.2.2.1 = true) (k : AW S C d Q X k1 k2 np (a0 :: a1 :: a2 :: a3 :: a4 :: a5 :: a6 :: a7 :: some v :: r) st h) : AW S C d Q X k1 k2 pc (a0 :: a1 :: a2 :: a3 :: a4 :: a5 :: a6 :: a7 :: oo :: r) (v :: st) h := a_st hC hi ht (Nat.le_of_ble_eq_true ht2) (Nat.le_of_ble_eq_true hn) (by rw [show lset (a0 :: a1 :: a2 :: a3 :: a4 :: a5 :: a6 :: a7 :: oo :: r) 8 v = a0 :: a1 :: a2 :: a3 :: a4 :: a5 :: a6 :: a7 :: some v :: r by simp [lset, kill_id hl]]; exact k)
theorem a_sL8 {a0 a1 a2 a3 a4 a5 a6 a7 : Option Value} {v : Int64} {oo o2 : Option Value} (hC : look C pc = some (ins, np, tgt, w)) (hi : stI ins = some (8, 2)) (hl : notLong a7 = true) (hn : Nat.ble 10 C.2.2.1 = true) (k : AW S C d Q X k1 k2 np (a0 :: a1 :: a2 :: a3 :: a4 :: a5 :: a6 :: a7 :: some (.long v) :: none :: r) st h) : AW S C d Q X k1 k2 pc (a0 :: a1 :: a2 :: a3 :: a4 :: a5 :: a6 :: a7 :: oo :: o2 :: r) (.long v :: st) h := a_stL hC hi (Nat.le_of_ble_eq_true hn) (by rw [show lsetL (a0 :: a1 :: a2 :: a3 :: a4 :: a5 :: a6 :: a7 :: oo :: o2 :: r) 8 v = a0 :: a1 :: a2 :: a3 :: a4 :: a5 :: a6 :: a7 :: some (.long v) :: none :: r by simp [lsetL, lset0, kill_id hl]]; exact k)
theorem a_i8 {a0 a1 a2 a3 a4 a5 a6 a7 : Option Value} {n : Int} {x : Int32} (hC : look C pc = some (.iinc 8 n, np, tgt, w)) (hl : notLong a7 = true) (hn : Nat.ble 9 C.2.2.1 = true) (k : AW S C d Q X k1 k2 np (a0 :: a1 :: a2 :: a3 :: a4 :: a5 :: a6 :: a7 :: some (.int (x + w)) :: r) st h) : AW S C d Q X k1 k2 pc (a0 :: a1 :: a2 :: a3 :: a4 :: a5 :: a6 :: a7 :: some (.int x) :: r) st h := a_inc hC rfl (Nat.le_of_ble_eq_true hn) (by rw [show lset (a0 :: a1 :: a2 :: a3 :: a4 :: a5 :: a6 :: a7 :: some (.int x) :: r) 8 (.int (x + w)) = a0 :: a1 :: a2 :: a3 :: a4 :: a5 :: a6 :: a7 :: some (.int (x + w)) :: r by simp [lset, kill_id hl]]; exact k)
theorem a_l9 {a0 a1 a2 a3 a4 a5 a6 a7 a8 : Option Value} {t : Nat} {v : Value} (hC : look C pc = some (ins, np, tgt, w)) (hi : ldI ins = some (9, t)) (ht : vty v = t) (k : AW S C d Q X k1 k2 np (a0 :: a1 :: a2 :: a3 :: a4 :: a5 :: a6 :: a7 :: a8 :: some v :: r) (v :: st) h) : AW S C d Q X k1 k2 pc (a0 :: a1 :: a2 :: a3 :: a4 :: a5 :: a6 :: a7 :: a8 :: some v :: r) st h := a_ld hC hi rfl ht k
theorem a_s9 {a0 a1 a2 a3 a4 a5 a6 a7 a8 : Option Value} {t : Nat} {v : Value} {oo : Option Value} (hC : look C pc = some (ins, np, tgt, w)) (hi : stI ins = some (9, t)) (ht : vty v = t) (ht2 : Nat.blt t 2 = true) (hl : notLong a8 = true) (hn : Nat.ble 10 C.2.2.1 = true) (k : AW S C d Q X k1 k2 np (a0 :: a1 :: a2 :: a3 :: a4 :: a5 :: a6 :: a7 :: a8 :: some v :: r) st h) : AW S C d Q X k1 k2 pc (a0 :: a1 :: a2 :: a3 :: a4 :: a5 :: a6 :: a7 :: a8 :: oo :: r) (v :: st) h := a_st hC hi ht (Nat.le_of_ble_eq_true ht2) (Nat.le_of_ble_eq_true hn) (by rw [show lset (a0 :: a1 :: a2 :: a3 :: a4 :: a5 :: a6 :: a7 :: a8 :: oo :: r) 9 v = a0 :: a1 :: a2 :: a3 :: a4 :: a5 :: a6 :: a7 :: a8 :: some v :: r by simp [lset, kill_id hl]]; exact k)
theorem a_sL9 {a0 a1 a2 a3 a4 a5 a6 a7 a8 : Option Value} {v : Int64} {oo o2 : Option Value} (hC : look C pc = some (ins, np, tgt, w)) (hi : stI ins = some (9, 2)) (hl : notLong a8 = true) (hn : Nat.ble 11 C.2.2.1 = true) (k : AW S C d Q X k1 k2 np (a0 :: a1 :: a2 :: a3 :: a4 :: a5 :: a6 :: a7 :: a8 :: some (.long v) :: none :: r) st h) : AW S C d Q X k1 k2 pc (a0 :: a1 :: a2 :: a3 :: a4 :: a5 :: a6 :: a7 :: a8 :: oo :: o2 :: r) (.long v :: st) h := a_stL hC hi (Nat.le_of_ble_eq_true hn) (by rw [show lsetL (a0 :: a1 :: a2 :: a3 :: a4 :: a5 :: a6 :: a7 :: a8 :: oo :: o2 :: r) 9 v = a0 :: a1 :: a2 :: a3 :: a4 :: a5 :: a6 :: a7 :: a8 :: some (.long v) :: none :: r by simp [lsetL, lset0, kill_id hl]]; exact k)
theorem a_i9 {a0 a1 a2 a3 a4 a5 a6 a7 a8 : Option Value} {n : Int} {x : Int32} (hC : look C pc = some (.iinc 9 n, np, tgt, w)) (hl : notLong a8 = true) (hn : Nat.ble 10 C.2.2.1 = true) (k : AW S C d Q X k1 k2 np (a0 :: a1 :: a2 :: a3 :: a4 :: a5 :: a6 :: a7 :: a8 :: some (.int (x + w)) :: r) st h) : AW S C d Q X k1 k2 pc (a0 :: a1 :: a2 :: a3 :: a4 :: a5 :: a6 :: a7 :: a8 :: some (.int x) :: r) st h := a_inc hC rfl (Nat.le_of_ble_eq_true hn) (by rw [show lset (a0 :: a1 :: a2 :: a3 :: a4 :: a5 :: a6 :: a7 :: a8 :: some (.int x) :: r) 9 (.int (x + w)) = a0 :: a1 :: a2 :: a3 :: a4 :: a5 :: a6 :: a7 :: a8 :: some (.int (x + w)) :: r by simp [lset, kill_id hl]]; exact k)
theorem a_l10 {a0 a1 a2 a3 a4 a5 a6 a7 a8 a9 : Option Value} {t : Nat} {v : Value} (hC : look C pc = some (ins, np, tgt, w)) (hi : ldI ins = some (10, t)) (ht : vty v = t) (k : AW S C d Q X k1 k2 np (a0 :: a1 :: a2 :: a3 :: a4 :: a5 :: a6 :: a7 :: a8 :: a9 :: some v :: r) (v :: st) h) : AW S C d Q X k1 k2 pc (a0 :: a1 :: a2 :: a3 :: a4 :: a5 :: a6 :: a7 :: a8 :: a9 :: some v :: r) st h := a_ld hC hi rfl ht k
theorem a_s10 {a0 a1 a2 a3 a4 a5 a6 a7 a8 a9 : Option Value} {t : Nat} {v : Value} {oo : Option Value} (hC : look C pc = some (ins, np, tgt, w)) (hi : stI ins = some (10, t)) (ht : vty v = t) (ht2 : Nat.blt t 2 = true) (hl : notLong a9 = true) (hn : Nat.ble 11 C.2.2.1 = true) (k : AW S C d Q X k1 k2 np (a0 :: a1 :: a2 :: a3 :: a4 :: a5 :: a6 :: a7 :: a8 :: a9 :: some v :: r) st h) : AW S C d Q X k1 k2 pc (a0 :: a1 :: a2 :: a3 :: a4 :: a5 :: a6 :: a7 :: a8 :: a9 :: oo :: r) (v :: st) h := a_st hC hi ht (Nat.le_of_ble_eq_true ht2) (Nat.le_of_ble_eq_true hn) (by rw [show lset (a0 :: a1 :: a2 :: a3 :: a4 :: a5 :: a6 :: a7 :: a8 :: a9 :: oo :: r) 10 v = a0 :: a1 :: a2 :: a3 :: a4 :: a5 :: a6 :: a7 :: a8 :: a9 :: some v :: r by simp [lset, kill_id hl]]; exact k)
theorem a_sL10 {a0 a1 a2 a3 a4 a5 a6 a7 a8 a9 : Option Value} {v : Int64} {oo o2 : Option Value} (hC : look C pc = some (ins, np, tgt, w)) (hi : stI ins = some (10, 2)) (hl : notLong a9 = true) (hn : Nat.ble 12 C.2.2.1 = true) (k : AW S C d Q X k1 k2 np (a0 :: a1 :: a2 :: a3 :: a4 :: a5 :: a6 :: a7 :: a8 :: a9 :: some (.long v) :: none :: r) st h) : AW S C d Q X k1 k2 pc (a0 :: a1 :: a2 :: a3 :: a4 :: a5 :: a6 :: a7 :: a8 :: a9 :: oo :: o2 :: r) (.long v :: st) h := a_stL hC hi (Nat.le_of_ble_eq_true hn) (by rw [show lsetL (a0 :: a1 :: a2 :: a3 :: a4 :: a5 :: a6 :: a7 :: a8 :: a9 :: oo :: o2 :: r) 10 v = a0 :: a1 :: a2 :: a3 :: a4 :: a5 :: a6 :: a7 :: a8 :: a9 :: some (.long v) :: none :: r by simp [lsetL, lset0, kill_id hl]]; exact k)
theorem a_i10 {a0 a1 a2 a3 a4 a5 a6 a7 a8 a9 : Option Value} {n : Int} {x : Int32} (hC : look C pc = some (.iinc 10 n, np, tgt, w)) (hl : notLong a9 = true) (hn : Nat.ble 11 C.2.2.1 = true) (k : AW S C d Q X k1 k2 np (a0 :: a1 :: a2 :: a3 :: a4 :: a5 :: a6 :: a7 :: a8 :: a9 :: some (.int (x + w)) :: r) st h) : AW S C d Q X k1 k2 pc (a0 :: a1 :: a2 :: a3 :: a4 :: a5 :: a6 :: a7 :: a8 :: a9 :: some (.int x) :: r) st h := a_inc hC rfl (Nat.le_of_ble_eq_true hn) (by rw [show lset (a0 :: a1 :: a2 :: a3 :: a4 :: a5 :: a6 :: a7 :: a8 :: a9 :: some (.int x) :: r) 10 (.int (x + w)) = a0 :: a1 :: a2 :: a3 :: a4 :: a5 :: a6 :: a7 :: a8 :: a9 :: some (.int (x + w)) :: r by simp [lset, kill_id hl]]; exact k)
end A5
