/-! THE CLAIM OUT OF ONE WALK OF THE LAW'S BODY. Your part is whole_start (and what it stands on); all else here is the same for every law, but numbers. -/
def R_law : String := "PutOffParadeLaw"
def lw_P (b : Addr) (xs : List Int32) (args : Array Value) (s : State) : Prop := args = #[.ref b] ∧ s.IntsAt b xs ∧ xs.length ≤ 3072 ∧ (Jvm.Cond.and given_1 narrow_1).before args s = true
def lw_Q (_ : Array Value) (s : State) (o : Outcome) (t : State) : Prop := o = .returned (some (.int 1)) ∧ Framed s o t [] 601024 7293034
def lw_Z (below : List Frame) (a : Array Value) (s : State) : State → Prop := fun t => ∃ o, t.status = .running ∧ Ended t below o ∧ lw_Q a s o t
/-- the law's own end, with 1 on the stack, nothing written that was there before, its room as the claim has it -/
theorem lw_ret {p : Program} {l : Launch} {e : Env} {s : State} {m : MethodId} {below : List Frame} {meth : Method} {c : Code} {b : Nat} (hx : p.tables.exec = Jvm.exec) (hb : c.code = code) (hr : meth.sig.returnType = ret) (hlocks : meth.locks = false) {pc : Nat} {H : Heap} {ls : Array Slot} (hdg : decode code pc = .ok (.ireturn, 1)) : W p l e room_1 s m #[Value.ref b] below meth c H [] 601024 7293034 (lw_Z below #[Value.ref b] s) (F0 m pc ls [.int 1]) := by
  intro T hT X
  obtain ⟨fs, hret, hrun, hended, hW, hframe⟩ := X.leave (v := some (.int 1)) (hlocks := hlocks) (fun h => by rw [hr] at h; cases h)
  have hmeth' : T.vm.method? m = some meth := X.method'
  refine ⟨T.setFrames fs, ?_, .returned (some (.int 1)), hrun, hended, rfl, ⟨_, rfl⟩, hW, hframe⟩
  jvm_step X.here [X.here.top, hx, hb, hdg, hmeth', hr, ret, narrow_b1]
  (try refine ⟨rfl, ?_⟩); (try refine ⟨rfl, ?_⟩)
  first | (intro acts; rw [hret _ acts rfl rfl rfl]) | rw [hret _ _ rfl rfl rfl]
  exact Steps.refl _
/-- what holds at the law's entry: the machine, the code, the tables' words (any of lw_tbl by 'hts w (by decide +kernel)'), the script of L ints xs at the cell b, what the Statement gives of the start (any of its parts by flat_of_before) -/
def lw_At (p : Program) (s : State) (m : MethodId) (meth : Method) (c : Code) (b L : Nat) (xs : Nat → Int32) : Prop :=
  p.tables.exec = Jvm.exec ∧ c.code = code ∧ meth.sig.returnType = ret ∧ c.maxLocals = 7 ∧ s.vm.findClass R_law = some m.cls ∧ (∀ w ∈ lw_tbl, w.before #[Value.ref b] s = true) ∧ va_X b L xs s s.heap ∧ b < s.heap.size ∧ meth.locks = false ∧ (Jvm.Cond.and given_1 narrow_1).before #[Value.ref b] s = true
/-! ===== the start: of the tables the constants, of the heap none of ours ===== -/
theorem nc_of {s : State} {A : Array Value} (h : (Jvm.Cond.and given_1 narrow_1).before A s = true) : ∀ r ∈ ncs, va_Nc r.1 r.2 s := by
  have hs := flat_of_before _ h
  intro r hr
  refine va_Nc.of (args := A) (hs _ ?_)
  revert r
  decide +kernel
set_option maxRecDepth 20000 in
theorem inst_all : ∀ (ci : Nat) (r : vw_C × (Nat → FieldType)), aC[ci]? = some r → aOk r ∧ ∃ n, inT (.instantiable r.1.1 n) := by
  intro ci r h
  rcases ci with _ | _ | _ | _ | _ | _ | _ | _ | _ | _ | _ | _ | _ | ci
  · obtain rfl := Option.some.inj h
    exact ⟨aok_0, 2, inC2 (i := 64) rfl rfl⟩
  · obtain rfl := Option.some.inj h
    exact ⟨aok_1, 3, inC1 (i := 115) rfl rfl⟩
  · obtain rfl := Option.some.inj h
    exact ⟨aok_2, 9, inC2 (i := 9) rfl rfl⟩
  · obtain rfl := Option.some.inj h
    exact ⟨aok_3, 6, inC2 (i := 3) rfl rfl⟩
  · obtain rfl := Option.some.inj h
    exact ⟨aok_3, 6, inC2 (i := 3) rfl rfl⟩
  · obtain rfl := Option.some.inj h
    exact ⟨aok_5, 18, inC1 (i := 109) rfl rfl⟩
  · obtain rfl := Option.some.inj h
    exact ⟨aok_6, 3, inC1 (i := 55) rfl rfl⟩
  · obtain rfl := Option.some.inj h
    exact ⟨aok_7, 2, inC1 (i := 39) rfl rfl⟩
  · obtain rfl := Option.some.inj h
    exact ⟨aok_7, 2, inC1 (i := 39) rfl rfl⟩
  · obtain rfl := Option.some.inj h
    exact ⟨aok_9, 10, inC1 (i := 64) rfl rfl⟩
  · obtain rfl := Option.some.inj h
    exact ⟨aok_9, 10, inC1 (i := 64) rfl rfl⟩
  · obtain rfl := Option.some.inj h
    exact ⟨aok_11, 14, inC1 (i := 31) rfl rfl⟩
  · obtain rfl := Option.some.inj h
    exact ⟨aok_12, 20, inC7 (i := 30) rfl rfl⟩
  · cases h
set_option maxRecDepth 20000 in
theorem SW_at {s : State} {b L : Nat} {xs : Nat → Int32} (hts : ∀ w ∈ lw_tbl, w.before #[Value.ref b] s = true) (hX : va_X b L xs s s.heap) (hb : b < s.heap.size) (hgv : (Jvm.Cond.and given_1 narrow_1).before #[Value.ref b] s = true) : ∃ G : aG, ∃ fv, (fv = Value.null ∨ fv = Value.ref 191) ∧ SW (S2 L xs fv) G s ∧ G.2.2.1 = s.heap.size ∧ ad G 199 = b := by
  have hs := flat_of_before _ hgv
  have hg : ∀ c, inGv c → c.before #[Value.ref b] s = true := fun c hc => inGv.b hgv hc
  have hTW : TW s := by
    intro w hw hg a
    have h := hts w hw
    cases hg1 : goodWord w with
    | true => exact word_at (State.WarmedH.refl s) (good_of_word hg1) h
    | false =>
      rw [hg1] at hg
      cases w with
      | methodLinkNest x i y z => exact va_Nw.use rfl (va_Nw.of rfl h)
      | declares x => exact va_Nw.use rfl (va_Nw.of rfl h)
      | castable x y => exact cast_warm (State.WarmedH.refl s) h
      | _ => exact absurd hg (by simp [isNest])
  have hK : ∀ ci : Nat, ∃ z : ClassId × (Nat → Nat), ∀ r : vw_C × (Nat → FieldType), aC[ci]? = some r → u_Kn s r.1.1 r.1.2.1 r.1.2.2 z.1 z.2 := by
    intro ci
    cases hr : aC[ci]? with
    | none => exact ⟨(0, fun _ => 0), fun r h => by cases h⟩
    | some r =>
      obtain ⟨h1, n, h2⟩ := inst_all ci r hr
      obtain ⟨cC, iS, h3⟩ := u_known (ws := u_ws r.1.1 r.1.2.1 r.1.2.2) (fun w hw => hts w (h1.1 w hw).1) (fun w hw => hw) (hts _ h2.1)
      exact ⟨(cC, iS), fun r' h' => by cases h'; exact h3⟩
  have hP : ∀ ty : FieldType, (∀ C, ty ≠ .object C) → (Cond.arrayClass ty).before #[Value.ref b] s = true → ∃ c : ClassId, ArrOfT s c ty ∧ va_RA s c ty := by
    intro ty hn h
    obtain ⟨c, k, comp, f1, f2, f3⟩ := Cond.arrayClass_spec h
    refine ⟨c, fun N z => ⟨(fun _ h => by cases h), k, f2, comp, f3⟩, ?_⟩
    cases ty with
    | object C => exact absurd rfl (hn C)
    | _ => exact f1
  obtain ⟨cI, hI⟩ := hP .int (by intro C h; cases h) (hts _ (inD1 (i := 107) rfl))
  obtain ⟨cB, hB⟩ := hP .byte (by intro C h; cases h) (hts _ (inD1 (i := 53) rfl))
  obtain ⟨cJ, hJ⟩ := hP .long (by intro C h; cases h) (hts _ (inD7 (i := 96) rfl))
  have hov : (Cond.arrayOver (.object RX5)).before #[Value.ref b] s = true := hts _ (inD2 (i := 76) rfl)
  obtain ⟨comp, cS, kS, f1, f2, f3, f4, f5⟩ := Cond.arrayOver_spec hov
  have hC : ArrOfT s cS (.object RX5) ∧ va_RA s cS (.object RX5) := ⟨fun N z => ⟨(fun _ h => by cases h), kS, f3, comp, f4⟩, kS, comp, f3, f4, f1, f5⟩
  obtain ⟨aW, aS, haW, haS⟩ := words_of (A := fun q => s.heap.size ≤ q) hg (fun a ha h => Nat.lt_irrefl _ (Nat.lt_of_lt_of_le ha h))
  obtain ⟨tR0, htR, hTR⟩ := va_Tof (N := 27) (f := fun j => .ref (aW j)) (A := fun q => s.heap.size ≤ q) (by decide) (hg _ g_rest.1) (va_eqt (hg _ g_rest.2.1)) (fun j hj => va_eqv (hg _ (g_el j hj)) (haW j hj)) (fun a ha h => Nat.lt_irrefl _ (Nat.lt_of_lt_of_le ha h))
  obtain ⟨fv, aF, hfv, haF⟩ := ref_of (hg _ g_rest.2.2.2)
  let G : aG := ((fun ci => (Classical.choose (hK ci)).1, fun ci => (Classical.choose (hK ci)).2), (fun t => match t with | 2 => cI | 3 => cB | 4 => cJ | _ => cS), s.heap.size, adF b tR0 aF aW aS)
  have hA : ∀ a : Nat, a < s.heap.size → ¬ aA G a := fun a ha h => Nat.lt_irrefl _ (Nat.lt_of_lt_of_le ha h)
  have eW : ∀ i, i < 27 → ad G (100 + i) = aW i := fun i hi => (adc (by omega)).trans (adF_w hi)
  have eS : ∀ i, i < 27 → ad G (130 + i) = (aS i).1 := fun i hi => (adc (by omega)).trans (adF_s hi)
  have eV : ∀ i, i < 27 → ad G (160 + i) = (aS i).2 := fun i hi => (adc (by omega)).trans (adF_v hi)
  refine ⟨G, fv, hfv, ⟨fun ci r hr => Classical.choose_spec (hK ci) r hr, fun t ht => ?_, hTW, ⟨⟨?_, ?_⟩, ?_, ?_, ?_, ?_⟩, ?_, nc_of hgv, ?_, va_AO.of hov⟩, rfl, rfl⟩
  · rcases t with _ | _ | _ | _ | t
    · exact hI
    · exact hB
    · exact hJ
    · exact hC
    · omega
  · exact vx_Zqof (args := #[Value.ref b]) (hts _ (inD5 (i := 17) rfl)) (hts _ (inD1 (i := 20) rfl)) (hs _ (by decide +kernel)) hA
  · exact vx_Zqof (args := #[Value.ref b]) (hts _ (inD5 (i := 19) rfl)) (hts _ (inD1 (i := 20) rfl)) (hs _ (by decide +kernel)) hA
  · intro r hr
    rcases List.mem_append.mp hr with h | h
    · obtain ⟨i, hi, rfl⟩ := List.mem_map.mp h
      replace hi := List.mem_range.mp hi
      show va_Z RX10 (wNm i) dWd (.ref (ad G (100 + i))) (aA G) s s.heap
      rw [eW i hi]
      exact va_Zof (args := #[Value.ref b]) (hts _ (t_ly i hi)) (hts _ t_rest.2.2.2.1) (haW i hi) hA
    · rcases List.mem_cons.mp h with rfl | h
      · exact va_Zof (args := #[Value.ref b]) (hts _ t_rest.1) (hts _ t_rest.2.2.2.2.1) htR hA
      · rcases List.mem_cons.mp h with rfl | h
        · exact va_Zof (args := #[Value.ref b]) (hts _ t_rest.2.1) (hts _ t_rest.2.2.2.2.2.1) (va_eqt (hg _ g_rest.2.2.1)) hA
        · rcases List.mem_cons.mp h with rfl | h
          · exact va_Zof (args := #[Value.ref b]) (hts _ t_rest.2.2.1) (hts _ t_rest.2.2.2.2.2.2) (haF G rfl) hA
          · cases h
  · intro r hr
    rcases List.mem_append.mp hr with h | h
    · obtain ⟨i, hi, rfl⟩ := List.mem_map.mp h
      replace hi := List.mem_range.mp hi
      show va_O RX10 (ad G (100 + i)) (aA G) s s.heap
      rw [eW i hi]
      exact va_Oof (hg _ (g_ex i hi)) (haW i hi) hA
    · obtain ⟨i, hi, rfl⟩ := List.mem_map.mp h
      replace hi := List.mem_range.mp hi
      show va_O RJ0 (ad G (130 + i)) (aA G) s s.heap
      rw [eS i hi]
      exact (haS i hi).2.1
  · intro r hr
    rcases List.mem_append.mp hr with h | h
    · obtain ⟨i, hi, rfl⟩ := List.mem_map.mp h
      replace hi := List.mem_range.mp hi
      show va_OF RX10 "text" "Ljava/lang/String;" (.ref (ad G (130 + i))) (ad G (100 + i)) (aA G) s s.heap
      rw [eW i hi, eS i hi]
      exact vk_OFof (haW i hi) (va_eqv (hg _ (g_tx i hi)) (haS i hi).1) hA
    · rcases List.mem_append.mp h with h | h
      · obtain ⟨i, hi, rfl⟩ := List.mem_map.mp h
        replace hi := List.mem_range.mp hi
        show va_OF RX10 "part" "I" (.int (wPa i)) (ad G (100 + i)) (aA G) s s.heap
        rw [eW i hi]
        exact vk_OFof (haW i hi) (va_eqt (hg _ (g_pa i hi))) hA
      · rcases List.mem_append.mp h with h | h
        · obtain ⟨i, hi, rfl⟩ := List.mem_map.mp h
          replace hi := List.mem_range.mp hi
          show va_OF RJ0 "value" "[B" (.ref (ad G (160 + i))) (ad G (130 + i)) (aA G) s s.heap
          rw [eS i hi, eV i hi]
          exact (haS i hi).2.2.2.1
        · obtain ⟨i, hi, rfl⟩ := List.mem_map.mp h
          replace hi := List.mem_range.mp hi
          show va_OF RJ0 "coder" "B" (.int 0) (ad G (130 + i)) (aA G) s s.heap
          rw [eS i hi]
          exact (haS i hi).2.2.1
  · intro r hr
    rcases List.mem_cons.mp hr with rfl | hr
    · obtain ⟨scr, x1, x2, x3, x4, x5⟩ := hX
      exact ⟨scr, x1, x2, x3, by rw [x4]; exact Nat.le_refl _, by rw [x4], x5, hA b hb⟩
    · rcases List.mem_cons.mp hr with rfl | hr
      · obtain ⟨cell, c1, c2, c3, c4, c5, c6, c7⟩ := hTR
        refine ⟨cell, c1, c2, c3, c4, c5, fun j hj => ?_, c7⟩
        show cell.slots[j]? = some (.ref (ad G (100 + j)))
        rw [eW j hj]
        exact c6 j hj
      · obtain ⟨i, hi, rfl⟩ := List.mem_map.mp hr
        replace hi := List.mem_range.mp hi
        show va_T .byte (ad G (160 + i)) (wLen i) (fun j => .int (wC i j)) (aA G) s s.heap
        rw [eV i hi]
        exact (haS i hi).2.2.2.2.2
  · intro r hr
    obtain ⟨i, hi, rfl⟩ := List.mem_map.mp hr
    replace hi := List.mem_range.mp hi
    show vk_R RX12 (wMi i) (wTx i) (ad G (130 + i)) s
    rw [eS i hi]
    exact vk_R.of (hts _ (t_sr i hi)) (va_eqv (hg _ (g_mi i hi)) (haS i hi).1)
  · intro r r' hr hr' e
    rcases List.mem_append.mp hr with h | h <;> rcases List.mem_append.mp hr' with h' | h' <;> obtain ⟨i, hi, rfl⟩ := List.mem_map.mp h <;> obtain ⟨j, hj, rfl⟩ := List.mem_map.mp h' <;> replace hi := List.mem_range.mp hi <;> replace hj := List.mem_range.mp hj
    · have e' : aW i = aW j := (eW i hi).symm.trans (e.trans (eW j hj))
      show 100 + i = 100 + j
      rw [inj_ww hg hi hj (haW i hi) (by rw [e']; exact haW j hj)]
    · have e' : aW i = (aS j).1 := (eW i hi).symm.trans (e.trans (eS j hj))
      exact (inj_ws (va_Oof (hg _ (g_ex i hi)) (haW i hi) hA) (by rw [e']; exact (haS j hj).2.1)).elim
    · have e' : aW j = (aS i).1 := (eW j hj).symm.trans (e.symm.trans (eS i hi))
      exact (inj_ws (va_Oof (hg _ (g_ex j hj)) (haW j hj) hA) (by rw [e']; exact (haS i hi).2.1)).elim
    · have e' : (aS i).1 = (aS j).1 := (eS i hi).symm.trans (e.trans (eS j hj))
      show 130 + i = 130 + j
      rw [inj_ss hi hj (haS i hi).1 (by rw [e']; exact (haS j hj).1) (haS i hi).2.2.2.2.1 (haS j hj).2.2.2.2.1 (haS i hi).2.2.2.2.2 (haS j hj).2.2.2.2.2]
set_option maxRecDepth 20000 in
theorem whole_start {p : Program} {e : Env} {s : State} {m : MethodId} {below : List Frame} {meth : Method} {c : Code} (l : Launch) (hflags : l.flags = flags0) {b L : Nat} {xs : Nat → Int32} (hL : L ≤ 3072) (C0 : lw_At p s m meth c b L xs) (hnm : meth.name = x.name) (htab : c.exceptionTable.toList = []) : W p l e room_1 s m #[Value.ref b] below meth c s.heap [] 0 0 (lw_Z below #[Value.ref b] s) (entryFrame m ([Value.ref b] : List Value).toArray 7) := by
  obtain ⟨hx, hcode, hret, hml, hown, hts, hX, hb, hlk, hgv⟩ := C0
  obtain ⟨G, fv, hfv, hS, hbase, hb'⟩ := SW_at hts hX hb hgv
  have hst : l.stackTraces = false := by
    show (!l.flags.contains noTraceFlag) = false
    rw [hflags]
    decide
  rw [lg_entry_eq]
  have hl0 := lv_entry ([Value.ref b] : List Value) (n := 7) (Nat.le_of_ble_eq_true rfl)
  have hok : OkM m_L_main := okM_of (by
    have h9 := ok_L_main
    simp only [okM, Bool.and_eq_true] at h9
    exact h9.2)
  have K := main_ok (HdS_2 hfv) (ScM_2 (xs := xs)) hL p l e s m #[Value.ref b] below meth c s.heap _ [] 0 0 601024 7293034 G ⟨hx, hcode, hret, hlk, hml, hown, hnm, hst, htab, hok⟩ hS ⟨hl0.1, hl0.2.1, fun i v hi => by
      have h1 := lg_app (l := [some (Value.ref 199)]) hi (lg_none _)
      have h2 := lg_args (G := G) (args := [Value.ref 199]) (n := 0) (by intro v hv; rw [List.mem_singleton.mp hv]; rfl) h1
      have h3 := hl0.2.2 (0 + i, mv G v) (by
        rw [show [Value.ref b] = [Value.ref 199].map (mv G) from by show _ = [Value.ref (ad G 199)]; rw [hb']]
        exact h2)
      simpa using h3⟩ ⟨fun p => trivial, fun p hp => absurd rfl hp, fun _ => by rw [hbase]; rfl, by rw [hbase]; exact Nat.le_refl _⟩ va_S.rf (by decide) (by decide)
  intro T hT X
  obtain ⟨t, a1, o, b1, b2, b3⟩ := K T hT X
  refine ⟨t, a1, o, b1, b2, ?_⟩
  rcases b3 with ⟨⟨v, h', e1, e2, -, -⟩, Lq, hfe, hfr⟩ | ⟨q, -, E, ce, Lq, ⟨h', hf, -⟩, -⟩
  · subst e2
    exact ⟨e1, hfe.1, hfe.2.1, State.sameButNew.drop_fresh (L := []) (J := Lq) hfe.2.2 (fun x hx => by rw [← hbase]; exact hfr x hx)⟩
  · exact hf.elim
set_option maxHeartbeats 4000000 in
theorem lw_walk (l : Launch) (hflags : l.flags = flags0) (b : Addr) (xs : List Int32) : MetFree l x (headSpec (Jvm.Cond.code x code maxLocals ret :: tables_1) room_1) (lw_P b xs) (fun _ _ _ _ _ => True) lw_Q := by
  refine MetFree.of_bodyS (code := code) (maxLocals := maxLocals) (ret := ret) (by decide) ?_ ?_
  · intro args s m h hn
    obtain ⟨meth, c, h1, h2, h3, h4, h5, h6, -, -⟩ := Cond.code_spec hn (atoms_spec (ws := Jvm.Cond.code x code maxLocals ret :: tables_1) h _ List.mem_cons_self)
    exact ⟨meth, c, h1, h2, h3, h4, h5, h6⟩
  · intro p e s m args below meth c s₁ B hml0 hP _
    obtain ⟨rfl, hx, hbd, hgv⟩ := hP
    obtain ⟨scr, harrAt, hlist, hof, hsmall⟩ := hx
    obtain ⟨hcb, hkn, -, -⟩ := State.arrayAt?_spec harrAt
    have hown : s.vm.findClass R_law = some m.cls := findClass_of_methodNamed B.named
    have hts0 : ∀ c ∈ (Jvm.Cond.code x code maxLocals ret :: tables_1), c.before #[Value.ref b] s = true := atoms_spec (ws := Jvm.Cond.code x code maxLocals ret :: tables_1) B.pre
    have hts : ∀ w ∈ lw_tbl, w.before #[Value.ref b] s = true := k2_hts_sels lw_privs (fun w hw => hts0 w (List.mem_cons_of_mem _ hw)) lw_privs_ok
    have hml : c.maxLocals = 7 := B.maxLocals_eq (hts0 _ List.mem_cons_self)
    have X₀ : Stand p l e room_1 s m #[Value.ref b] below meth c s₁ [] 0 0 := Stand.of_body B
    have hh0 : s₁.heap = s.heap := by rw [B.state]; rfl
    have hsz : scr.slots.size = xs.length := by rw [← Array.length_toList, hlist, List.length_map]
    have hval : ∀ j : Nat, j < xs.length → scr.slots[j]? = some (.int (xs.getD j 0)) := fun j hj => by
      rw [← Array.getElem?_toList, hlist]
      simp [hj]
    have hbl : b < s.heap.size := (Array.getElem?_eq_some_iff.mp hcb).1
    have hX : va_X b xs.length (fun j => xs.getD j 0) s s.heap := ⟨scr, hcb, hof, hkn, hsz, hval⟩
    have hnm : meth.name = x.name := (name_of_methodNamed B.named B.method).1
    have htab : c.exceptionTable.toList = [] := by
      obtain ⟨meth9, c9, h1, h2, -, -, -, -, h7, -⟩ := Cond.code_spec B.named (hts0 _ List.mem_cons_self)
      cases Option.some.inj (h1.symm.trans B.method)
      cases Option.some.inj (h2.symm.trans X₀.code)
      rw [Array.isEmpty_iff.mp h7]
    have K : W p l e room_1 s m #[Value.ref b] below meth c s₁.heap [] 0 0 (lw_Z below #[Value.ref b] s) (entryFrame m ([Value.ref b] : List Value).toArray 7) := by
      rw [hh0]
      exact whole_start l hflags hbd ⟨B.exec, B.bytes, B.returns, hml, hown, hts, hX, hbl, B.notSynchronized, hgv⟩ hnm htab
    obtain ⟨t, a1, o, b1, b2, b3⟩ := K s₁ rfl X₀
    exact ⟨t, o, a1, b1, b2, b3⟩
theorem lw_pre_spec {args : Array Value} {s : State} (h : (Jvm.Cond.and given_1 narrow_1).before args s = true) (hr : rest_1_c.before args s = true) : ∃ (b : Addr) (xs : List Int32), lw_P b xs args s := by
  have hs := flat_of_before _ h
  have hq := flat_of_before _ hr
  have hc : (Cond.count 1).before args s = true := hs _ (by decide +kernel)
  have harr : (Cond.arrayOf (.arg 0) .int).before args s = true := hs _ (by decide +kernel)
  have hle : (Cond.le (.length (.arg 0)) (.int 3072)).before args s = true := hs _ (by decide +kernel)
  have hlen : (Cond.isInt (.length (.arg 0))).before args s = true := hq _ (by decide +kernel)
  have hall : (Cond.all (.arg 0) (.isInt (.elem (.arg 0) (.index 0)))).before args s = true := hq _ (by decide +kernel)
  obtain ⟨b, xs, hb, hx⟩ := State.ints_of_pre rfl harr hlen hall
  have hsm : xs.length < 2 ^ 31 := hx.choose_spec.2.2.2
  have hev : (Term.length (.arg 0)).eval args s none [] s = some (.int xs.length.toInt32) := hx.length_eval hb
  have hv := Cond.le_ints hev (show (Term.int 3072).eval args s none [] s = some (.int 3072) from rfl)
  have hd : xs.length.toInt32 ≤ 3072 := by
    simpa [Cond.before, Cond.holds, hv] using hle
  have hN : xs.length ≤ 3072 := (Int32.ofNat_le_ofNat hsm (by decide)).mp (show Int32.ofNat xs.length ≤ Int32.ofNat 3072 from hd)
  exact ⟨b, xs, Cond.one_arg hc (show args[0]? = some (.ref b) from hb), hx, hN, h⟩
theorem lw_comes (l : Launch) (hflags : l.flags = flags0) : Comes l x (Jvm.Cond.code x code maxLocals ret :: tables_1) room_1 (fun tb e args s => Calls_1 tb e args s ∧ rest_1 tb e args s ∧ Pre_1 tb e args s)
    (fun _ _ args s o t => lw_Q args s o t) := by
  intro p e ha hc hk s m args below hf hfit hheap happ hpre
  obtain ⟨b, xs, hP⟩ := lw_pre_spec hpre.2.2 hpre.2.1
  obtain ⟨k, o, h1, h2, h3, hQ⟩ := lw_walk l hflags b xs p e ha hc hk s m args below hf ((Spec.applies_iff_loose hf).mp happ).1 hP trivial
  exact ⟨k, o, h1, h2, h3, hQ⟩
theorem lw_frame {s t : State} {o : Outcome} {args : Array Value} (h : Framed s o t [] 601024 7293034) :
    Framed s o t (fieldLocs frame_1_writes args s ++ arrayLocs frame_1_arrays args s ++ staticLocs frame_1_statics s) 601024 7293034 := h
theorem lw_limb (L : Cond) (hL : ∀ (args : Array Value) (s t : State), L.after args s (.returned (some (.int 1))) t = true) :
    ArmFor flags0 classFile x code maxLocals ret World_1 tables_1 room_1 Calls_1 rest_1 Pre_1
      (fun tb e a s o t => postC L tb e a s o t ∧ Framed s o t (fieldLocs frame_1_writes a s ++ arrayLocs frame_1_arrays a s ++ staticLocs frame_1_statics s) 601024 7293034) := by
  intro l hflags _ _ p e ha hc hk s m args below hf hfit hheap happ hpre
  obtain ⟨k, o, h1, h2, h3, rfl, hF⟩ := lw_comes l hflags p e ha hc hk s m args below hf hfit hheap happ hpre
  exact ⟨k, _, h1, h2, h3, hL args s _, lw_frame hF⟩
theorem i_vc : Claimed_1_1 ∧ Claimed_1_2 := ⟨lw_limb limb_1_1 (fun args s t => by simp [limb_1_1, Cond.after, Cond.holds, Cond.value]), lw_limb limb_1_2 (fun args s t => Cond.after_iff.mpr (by
  first | (rw [show limb_1_2 = Cond.eq .result (.int 1) from rfl, Cond.eq_ints (x := 1) (y := 1) rfl rfl]; simp; done) | (simp [limb_1_2, Cond.value, Term.eval]; done)))⟩
