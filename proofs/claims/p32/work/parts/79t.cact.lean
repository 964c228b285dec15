/-! ===== the class's acts, exactly (printed by program) ===== -/
section T79t
variable {S : aS} {I : Nat → Nat → Int32} {L : Nat → Nat → Int64} {w1 w2 t : Nat} {nd np n fa : Nat} {W : Nat → Int32}
set_option maxRecDepth 100000
theorem a_bud {C : aM} {d k1 k2 j1 j2 pc : Nat} {Q : Option Value → aH → Prop} {X : String → aH → Prop} {ls : List (Option Value)} {st : List Value} {h : aH} (h1 : j1 ≤ k1) (h2 : j2 ≤ k2) (k : AW S C d Q X j1 j2 pc ls st h) : AW S C d Q X k1 k2 pc ls st h := by
  intro p l e s m args below meth c H la locs cells slots mc ms G CC hS hL hR hF g1 g2
  exact k p l e s m args below meth c H la locs cells slots mc ms G CC hS hL hR hF (by omega) (by omega)
theorem le_m1 {n : Nat} (hn : n ≤ 12) {x : Int32} : x ≤ nI n - 1 ↔ x < nI n := by
  rcases n with _ | n
  · rw [Int32.le_iff_toInt_le, Int32.lt_iff_toInt_lt]
    show x.toInt ≤ -1 ↔ x.toInt < 0
    omega
  · rw [nI_dec, Int32.le_iff_toInt_le, Int32.lt_iff_toInt_lt, nI_toInt (by omega), nI_toInt (by omega)]
    omega
theorem inB_t {n : Nat} (hn : n ≤ 12) {x : Int32} (h1 : ¬ x < 0) (h2 : x < nI n) : inB x 0 (nI n - 1) = true := decide_eq_true ⟨Int32.not_lt.mp h1, (le_m1 hn).mpr h2⟩
theorem inB_f1 {y x : Int32} (h1 : x < 0) : inB x 0 y = false := decide_eq_false fun z => absurd h1 (Int32.not_lt.mpr z.1)
theorem inB_f2 {n : Nat} (hn : n ≤ 12) {x : Int32} (h2 : ¬ x < nI n) : inB x 0 (nI n - 1) = false := decide_eq_false fun z => h2 ((le_m1 hn).mp z.2)
theorem f_needDuty (h3 : I 235 3 = nI nd) (hn : nd ≤ 12) {x : Int32} : Sp S m_X11_needDuty 13 1 6 [.ref 200, .int x] (hp I L w1 w2 t) (fun v h' => v = none ∧ inB x 0 (nI nd - 1) = true ∧ h' = hp I L w1 w2 t) (fun E h' => E = exN 0 ∧ inB x 0 (nI nd - 1) = false ∧ h' = hp I L w1 w2 0) := by
  refine Sp_of ok_X11_needDuty rfl rfl ?_
  show AW S m_X11_needDuty 13 _ _ 1 6 0 [some (.ref 200), some (.int x)] [] (hp I L w1 w2 t)
  refine a_l1 rfl rfl rfl ?_
  refine a_if_lt rfl (fun c => ?_) (fun c => ?_)
  · exact a_throw rfl rfl rfl rfl tX11_ioobe rfl rfl rfl rfl rfl ⟨rfl, inB_f1 c, rfl⟩
  · refine a_l1 rfl rfl rfl ?_
    refine a_l0 rfl rfl rfl ?_
    refine a_getq rfl gfX11_37_11 rfl (rfl) ?_
    refine a_getiv (v := nI nd) rfl gfX11_182_5 rfl (h3) ?_
    refine a_ic_lt rfl (fun c2 => ?_) (fun c2 => ?_)
    · exact a_vret rfl rfl ⟨rfl, inB_t hn c c2, rfl⟩
    · exact a_throw rfl rfl rfl rfl tX11_ioobe rfl rfl rfl rfl rfl ⟨rfl, inB_f2 hn c2, rfl⟩
theorem f_needPerson (h3 : I 235 0 = nI np) (hn : np ≤ 12) {x : Int32} : Sp S m_X11_needPerson 13 1 6 [.ref 200, .int x] (hp I L w1 w2 t) (fun v h' => v = none ∧ inB x 0 (nI np - 1) = true ∧ h' = hp I L w1 w2 t) (fun E h' => E = exN 0 ∧ inB x 0 (nI np - 1) = false ∧ h' = hp I L w1 w2 0) := by
  refine Sp_of ok_X11_needPerson rfl rfl ?_
  show AW S m_X11_needPerson 13 _ _ 1 6 0 [some (.ref 200), some (.int x)] [] (hp I L w1 w2 t)
  refine a_l1 rfl rfl rfl ?_
  refine a_if_lt rfl (fun c => ?_) (fun c => ?_)
  · exact a_throw rfl rfl rfl rfl tX11_ioobe rfl rfl rfl rfl rfl ⟨rfl, inB_f1 c, rfl⟩
  · refine a_l1 rfl rfl rfl ?_
    refine a_l0 rfl rfl rfl ?_
    refine a_getq rfl gfX11_37_11 rfl (rfl) ?_
    refine a_getiv (v := nI np) rfl gfX11_179_5 rfl (h3) ?_
    refine a_ic_lt rfl (fun c2 => ?_) (fun c2 => ?_)
    · exact a_vret rfl rfl ⟨rfl, inB_t hn c c2, rfl⟩
    · exact a_throw rfl rfl rfl rfl tX11_ioobe rfl rfl rfl rfl rfl ⟨rfl, inB_f2 hn c2, rfl⟩
theorem f_needTwo {x y : Int32} : Sp S m_X11_needTwo 13 1 6 [.int x, .int y] (hp I L w1 w2 t) (fun v h' => v = none ∧ ¬ x = y ∧ h' = hp I L w1 w2 t) (fun E h' => E = exN 1 ∧ x = y ∧ h' = hp I L w1 w2 0) := by
  refine Sp_of ok_X11_needTwo rfl rfl ?_
  show AW S m_X11_needTwo 13 _ _ 1 6 0 [some (.int x), some (.int y)] [] (hp I L w1 w2 t)
  refine a_l0 rfl rfl rfl ?_
  refine a_l1 rfl rfl rfl ?_
  refine a_ic_ne rfl (fun c => ?_) (fun c => ?_)
  · exact a_vret rfl rfl ⟨rfl, c, rfl⟩
  · exact a_throw rfl rfl rfl rfl tX11_iae rfl rfl rfl rfl rfl ⟨rfl, c, rfl⟩
theorem f_needNumber {x y z : Int32} : Sp S m_X11_needNumber 13 1 6 [.int x, .int y, .int z] (hp I L w1 w2 t) (fun v h' => v = none ∧ inB x y z = true ∧ h' = hp I L w1 w2 t) (fun E h' => E = exN 1 ∧ inB x y z = false ∧ h' = hp I L w1 w2 0) := by
  refine Sp_of ok_X11_needNumber rfl rfl ?_
  show AW S m_X11_needNumber 13 _ _ 1 6 0 [some (.int x), some (.int y), some (.int z)] [] (hp I L w1 w2 t)
  refine a_l0 rfl rfl rfl ?_
  refine a_l1 rfl rfl rfl ?_
  refine a_ic_lt rfl (fun c => ?_) (fun c => ?_)
  · exact a_throw rfl rfl rfl rfl tX11_iae rfl rfl rfl rfl rfl ⟨rfl, decide_eq_false fun q => absurd c (Int32.not_lt.mpr q.1), rfl⟩
  · refine a_l0 rfl rfl rfl ?_
    refine a_l2 rfl rfl rfl ?_
    refine a_ic_le rfl (fun c2 => ?_) (fun c2 => ?_)
    · exact a_vret rfl rfl ⟨rfl, decide_eq_true ⟨Int32.not_lt.mp c, c2⟩, rfl⟩
    · exact a_throw rfl rfl rfl rfl tX11_iae rfl rfl rfl rfl rfl ⟨rfl, decide_eq_false fun q => c2 q.2, rfl⟩
theorem f_needState {i : Nat} (hi : i < 12) {y : Int32} : Sp S m_X11_needState 13 1 6 [.ref 200, .int (nI i), .int y] (hp I L w1 w2 t) (fun v h' => v = none ∧ I 243 i = y ∧ h' = hp I L w1 w2 t) (fun E h' => E = exN 2 ∧ ¬ I 243 i = y ∧ h' = hp I L w1 w2 0) := by
  refine Sp_of ok_X11_needState rfl rfl ?_
  show AW S m_X11_needState 13 _ _ 1 6 0 [some (.ref 200), some (.int (nI i)), some (.int y)] [] (hp I L w1 w2 t)
  refine a_l0 rfl rfl rfl ?_
  refine a_getq rfl gfX11_37_11 rfl (rfl) ?_
  refine a_getq rfl gfX11_159_5 rfl (rfl) ?_
  refine a_l1 rfl rfl rfl ?_
  refine a_eS1 rfl lX11_117 mo_X11_at (sp_X11_at rfl) rfl rfl rfl rfl ?_
  rw [atF_nI hi (by decide)]
  refine a_l2 rfl rfl rfl ?_
  refine a_ic_eq rfl (fun c => ?_) (fun c => ?_)
  · exact a_vret rfl rfl ⟨rfl, c, rfl⟩
  · exact a_throw rfl rfl rfl rfl tX11_ise rfl rfl rfl rfl rfl ⟨rfl, c, rfl⟩
theorem rem12 : ∀ k, k < 24 → nI k - nI k / 12 * 12 = nI (k % 12) := by decide +kernel
theorem f_pastAt {k : Nat} (hk : k < 24) : SpE S m_X11_pastAt 12 [.ref 200, .int (nI k)] (hp I L w1 w2 t) (some (.ref (288 + 11 * (k % 12)))) (hp I L w1 w2 t) := by
  have hm : k % 12 < 12 := Nat.mod_lt _ (by decide)
  refine SpE_of ok_X11_pastAt rfl rfl ?_
  show AW S m_X11_pastAt 12 _ _ 0 0 0 [some (.ref 200), some (.int (nI k)), none] [] (hp I L w1 w2 t)
  refine a_l1 rfl rfl rfl ?_
  refine a_s rfl rfl ?_
  refine a_irem rfl (by decide) ?_
  refine a_top (y := nI (k % 12)) (rem12 k hk) ?_
  refine a_s2 rfl rfl rfl rfl rfl rfl ?_
  refine a_l2 rfl rfl rfl ?_
  refine a_if_lt rfl (fun c => absurd c (nI_pos (by omega))) (fun _ => ?_)
  refine a_l2 rfl rfl rfl ?_
  refine a_l0 rfl rfl rfl ?_
  refine a_getq rfl gfX11_64_11 rfl (rfl) ?_
  refine a_len rfl rfl rfl rfl ?_
  refine a_ic_ge rfl (fun c => absurd c (nI_ge (b := 12) hm (by omega))) (fun _ => ?_)
  refine a_l0 rfl rfl rfl ?_
  refine a_getq rfl gfX11_64_11 rfl (rfl) ?_
  refine a_l2 rfl rfl rfl ?_
  refine a_aald (q := 288 + 11 * (k % 12) + 1) rfl rfl (inI_nI hm (by decide)) (by rw [nI_clamp (by omega)]; exact past_R _ hm) ?_
  refine a_goto rfl ?_
  exact a_aret (q := 288 + 11 * (k % 12) + 1) rfl rfl rfl ⟨rfl, rfl⟩
/-- now is kept as the latest of twelve at most -/
def reS (I : Nat → Nat → Int32) (n fa : Nat) : Nat → Nat → Int32 := if n = 12 then up2 (cpS (up2 (up2 I 200 12 (nI ((fa + 1) % 12))) 200 13 (nI 11)) (288 + 11 * (((fa + 1) % 12 + 11) % 12)) 235 11) 200 13 (nI 12) else up2 (cpS I (288 + 11 * ((fa + n) % 12)) 235 11) 200 13 (nI (n + 1))
theorem f_remember2 {J : Nat → Nat → Int32} {f m : Nat} (h12 : J 200 12 = nI f) (hf : f < 12) (h13 : J 200 13 = nI m) (hm : m < 12) {Q : Option Value → aH → Prop} {X : String → aH → Prop} {u : Option Value} (k : Q none (hp (up2 (cpS J (288 + 11 * ((f + m) % 12)) 235 11) 200 13 (nI (m + 1))) L w1 w2 t)) : AW S m_X11_rememberAct 15 Q X 0 0 32 [some (.ref 200), u] [] (hp J L w1 w2 t) := by
  have hi : (f + m) % 12 < 12 := Nat.mod_lt _ (by decide)
  refine a_l0 rfl rfl rfl ?_
  refine a_l0 rfl rfl rfl ?_
  refine a_getiv (v := nI f) rfl gfX11_368_11 rfl (h12) ?_
  refine a_l0 rfl rfl rfl ?_
  refine a_getiv (v := nI m) rfl gfX11_95_11 rfl (h13) ?_
  refine a_s rfl rfl ?_
  refine a_top (y := nI (f + m)) (nI_addl f m) ?_
  refine a_eV1 rfl lX11_371 mo_X11_pastAt (f_pastAt (k := f + m) (by omega)) rfl rfl rfl ⟨11, _, rfl, rfl, rfl⟩ rfl ?_
  refine a_s1 rfl rfl rfl rfl rfl rfl ?_
  refine a_l1 rfl rfl rfl ?_
  refine a_ifnull_f rfl ?_
  refine a_l1 rfl rfl rfl ?_
  refine a_l0 rfl rfl rfl ?_
  refine a_getq rfl gfX11_37_11 rfl (rfl) ?_
  refine a_eV0 rfl lX11_375 mo_X5_copyAll (sp_X5_copyAll (a := 288 + 11 * ((f + m) % 12)) (b := 235) (past_st _ hi) (by decide) (by omega)) rfl rfl rfl ⟨5, _, kS0 (past_st _ hi), rfl, rfl⟩ rfl ?_
  refine a_l0 rfl rfl rfl ?_
  refine a_s rfl rfl ?_
  refine a_getiv (v := nI m) rfl gfX11_95_11 rfl ((congrFun (cpS_out (by omega)) 13).trans h13) ?_
  refine a_s rfl rfl ?_
  refine a_s rfl rfl ?_
  refine a_top (y := nI (m + 1)) ((nI_succ m).symm) ?_
  refine a_puti rfl pfX11_95_11 rfl ?_
  exact a_vret rfl rfl k
theorem f_remember (h13 : I 200 13 = nI n) (hn : n ≤ 12) (h12 : I 200 12 = nI fa) (hf : fa < 12) : SpE S m_X11_rememberAct 15 [.ref 200] (hp I L w1 w2 t) none (hp (reS I n fa) L w1 w2 t) := by
  refine SpE_of ok_X11_rememberAct rfl rfl ?_
  show AW S m_X11_rememberAct 15 _ _ 0 0 0 [some (.ref 200), none] [] (hp I L w1 w2 t)
  refine a_l0 rfl rfl rfl ?_
  refine a_getiv (v := nI n) rfl gfX11_95_11 rfl (h13) ?_
  refine a_s rfl rfl ?_
  refine a_ic_ne rfl (fun c => ?_) (fun c => ?_)
  · have n12 : ¬ n = 12 := fun z => c (by rw [z]; rfl)
    unfold reS
    rw [if_neg n12]
    exact f_remember2 h12 hf h13 (by omega) ⟨rfl, rfl⟩
  · have n12 : n = 12 := nI_inj (by omega) (by decide) c
    unfold reS
    rw [if_pos n12]
    refine a_l0 rfl rfl rfl ?_
    refine a_l0 rfl rfl rfl ?_
    refine a_getiv (v := nI fa) rfl gfX11_368_11 rfl (h12) ?_
    refine a_s rfl rfl ?_
    refine a_s rfl rfl ?_
    refine a_top (y := nI (fa + 1)) ((nI_succ fa).symm) ?_
    refine a_s rfl rfl ?_
    refine a_irem rfl (by decide) ?_
    refine a_top (y := nI ((fa + 1) % 12)) (rem12 (fa + 1) (by omega)) ?_
    refine a_puti rfl pfX11_368_11 rfl ?_
    refine a_l0 rfl rfl rfl ?_
    refine a_s rfl rfl ?_
    refine a_getiv (v := nI 12) rfl gfX11_95_11 rfl ((up2_ne (Or.inr (by decide))).trans (h13.trans (by rw [n12]))) ?_
    refine a_s rfl rfl ?_
    refine a_s rfl rfl ?_
    refine a_top (y := nI 11) (rfl) ?_
    refine a_puti rfl pfX11_95_11 rfl ?_
    exact f_remember2 (f := (fa + 1) % 12) (m := 11) ((up2_ne (Or.inr (by decide))).trans up2_at) (Nat.mod_lt _ (by decide)) up2_at (by decide) ⟨rfl, rfl⟩
theorem reS_row {q : Nat} (h0 : q ≠ 200) (h1 : q < 288 ∨ 420 ≤ q) : reS I n fa q = I q := by
  have m1 : ((fa + 1) % 12 + 11) % 12 < 12 := Nat.mod_lt _ (by decide)
  have m2 : (fa + n) % 12 < 12 := Nat.mod_lt _ (by decide)
  unfold reS
  by_cases c : n = 12
  · rw [if_pos c, up2_row h0, cpS_out (by omega), up2_row h0, up2_row h0]
  · rw [if_neg c, up2_row h0, cpS_out (by omega)]
def QAc (I : Nat → Nat → Int32) (n fa : Nat) (c v : Int32) (f : (Nat → Nat → Int32) → Nat → Nat → Int32) (L : Nat → Nat → Int64) (w1 w2 t : Nat) : Option Value → aH → Prop := fun v' h' => c = 0 ∧ v' = some (.int v) ∧ h' = hp (f (reS I n fa)) L w1 w2 t
def XAc (I : Nat → Nat → Int32) (c : Int32) (ks : List (Int32 × Nat)) (L : Nat → Nat → Int64) (w1 w2 : Nat) : String → aH → Prop := fun E h' => (∃ x ∈ ks, c = x.1 ∧ E = exN x.2) ∧ h' = hp I L w1 w2 0
theorem QAc.yes {c v x : Int32} {f : (Nat → Nat → Int32) → Nat → Nat → Int32} {J : Nat → Nat → Int32} (hc : c = 0) (hx : x = v) (hJ : J = f (reS I n fa)) : QAc I n fa c v f L w1 w2 t (some (.int x)) (hp J L w1 w2 t) := ⟨hc, by rw [hx], by rw [hJ]⟩
theorem f_put (hD : Sd I 235 W) (hW : WOk W) (h13 : I 200 13 = nI n) (hn : n ≤ 12) (h12 : I 200 12 = nI fa) (hf : fa < 12) {x1 : Int32} : Sp S m_X11_put 16 2 12 [.ref 200, .int x1] (hp I L w1 w2 t) (QAc I n fa (vS (dn W) W 0 x1) (mn 99 (W (23 + 6 * ixN x1 + 2) + 1)) (fun J => up2 J 240 (ixN x1) (mn 99 (W (23 + 6 * ixN x1 + 2) + 1))) L w1 w2 t) (XAc I (vS (dn W) W 0 x1) [(1, 0), (2, 2)] L w1 w2) := by
  have hd3 : I 235 3 = nI (dn W) := (Sd.fd hD (f := 3) (g := 1) (by decide)).trans hW.2.2.2
  have hp0 : I 235 0 = nI (pn W) := (Sd.fd hD (f := 0) (g := 0) (by decide)).trans hW.2.2.1
  have hd12 := hW.2.1
  have hp6 := hW.1
  refine Sp_of ok_X11_put rfl rfl ?_
  show AW S m_X11_put 16 _ _ 2 12 0 [some (.ref 200), some (.int x1)] [] (hp I L w1 w2 t)
  refine a_l0 rfl rfl rfl ?_
  refine a_l1 rfl rfl rfl ?_
  refine a_callV rfl lX11_141 mo_X11_needDuty (f_needDuty hd3 (by omega)) rfl rfl rfl ⟨11, _, rfl, rfl, rfl⟩ rfl (fun v' h' hv => ?_) (fun E h' ex => ?_)
  rotate_left
  · obtain ⟨rfl, hz, rfl⟩ := ex
    exact ⟨⟨_, List.mem_cons_self, (if_neg (by rw [hz]; exact Bool.false_ne_true)), rfl⟩, rfl⟩
  obtain ⟨rfl, hz, rfl⟩ := hv
  obtain ⟨i, hi, rfl⟩ := inB_ix (by omega) hz
  have hx := ixN_nI (i := i) (by omega)
  have e5 : I 243 i = W (23 + 6 * i + 5) := hD.2.2 i (by omega) 5 (by decide)
  refine a_l0 rfl rfl rfl ?_
  refine a_l1 rfl rfl rfl ?_
  refine a_s rfl rfl ?_
  refine a_callV rfl lX11_236 mo_X11_needState (f_needState (i := i) (y := 0) (by omega)) rfl rfl rfl ⟨11, _, rfl, rfl, rfl⟩ rfl (fun v' h' hv => ?_) (fun E h' ex => ?_)
  rotate_left
  · obtain ⟨rfl, hz2, rfl⟩ := ex
    exact ⟨⟨_, (List.mem_cons_of_mem _ List.mem_cons_self), ((if_pos hz).trans (if_neg (by rw [hx, ← e5]; exact hz2))), rfl⟩, rfl⟩
  obtain ⟨rfl, hz2, rfl⟩ := hv
  have vy : vS (dn W) W 0 (nI i) = 0 := (if_pos hz).trans (if_pos (by rw [hx, ← e5]; exact hz2))
  refine a_l0 rfl rfl rfl ?_
  refine a_eV0 rfl lX11_230 mo_X11_rememberAct (f_remember h13 hn h12 hf) rfl rfl rfl ⟨11, _, rfl, rfl, rfl⟩ rfl ?_
  have e2 : reS I n fa 240 i = W (23 + 6 * i + 2) := (congrFun (reS_row (by decide) (by decide)) i).trans (hD.2.2 i (by omega) 2 (by decide))
  refine a_l0 rfl rfl rfl ?_
  refine a_getq rfl gfX11_37_11 rfl (rfl) ?_
  refine a_l1 rfl rfl rfl ?_
  refine a_eV0 rfl lX11_240 mo_X5_growOlder (sp_X5_growOlder (a := 235) (by decide)) rfl rfl rfl ⟨5, _, rfl, rfl, rfl⟩ rfl ?_
  have eg : growF (reS I n fa) 235 (nI i) = up2 (reS I n fa) 240 i (mn 99 (W (23 + 6 * i + 2) + 1)) := by
    unfold growF
    rw [setF_nI (show i < 12 by omega) (by decide), atF_nI (show i < 12 by omega) (by decide), show reS I n fa (235 + 5) i = W (23 + 6 * i + 2) from e2]
    rfl
  rw [eg]
  refine a_l0 rfl rfl rfl ?_
  refine a_getq rfl gfX11_37_11 rfl (rfl) ?_
  refine a_getq rfl gfX11_150_5 rfl (rfl) ?_
  refine a_l1 rfl rfl rfl ?_
  refine a_eS1 rfl lX11_117 mo_X11_at (sp_X11_at rfl) rfl rfl rfl rfl ?_
  exact a_iret rfl rfl (QAc.yes vy (by rw [atF_nI (show i < 12 by omega) (by decide), hx]; exact up2_at) (by rw [hx]))
theorem f_forget (hD : Sd I 235 W) (hW : WOk W) (h13 : I 200 13 = nI n) (hn : n ≤ 12) (h12 : I 200 12 = nI fa) (hf : fa < 12) {x1 : Int32} : Sp S m_X11_forget 16 2 12 [.ref 200, .int x1] (hp I L w1 w2 t) (QAc I n fa (vS (dn W) W 0 x1) (W (23 + 6 * ixN x1 + 1)) (fun J => up2 J 243 (ixN x1) 2) L w1 w2 t) (XAc I (vS (dn W) W 0 x1) [(1, 0), (2, 2)] L w1 w2) := by
  have hd3 : I 235 3 = nI (dn W) := (Sd.fd hD (f := 3) (g := 1) (by decide)).trans hW.2.2.2
  have hp0 : I 235 0 = nI (pn W) := (Sd.fd hD (f := 0) (g := 0) (by decide)).trans hW.2.2.1
  have hd12 := hW.2.1
  have hp6 := hW.1
  refine Sp_of ok_X11_forget rfl rfl ?_
  show AW S m_X11_forget 16 _ _ 2 12 0 [some (.ref 200), some (.int x1)] [] (hp I L w1 w2 t)
  refine a_l0 rfl rfl rfl ?_
  refine a_l1 rfl rfl rfl ?_
  refine a_callV rfl lX11_141 mo_X11_needDuty (f_needDuty hd3 (by omega)) rfl rfl rfl ⟨11, _, rfl, rfl, rfl⟩ rfl (fun v' h' hv => ?_) (fun E h' ex => ?_)
  rotate_left
  · obtain ⟨rfl, hz, rfl⟩ := ex
    exact ⟨⟨_, List.mem_cons_self, (if_neg (by rw [hz]; exact Bool.false_ne_true)), rfl⟩, rfl⟩
  obtain ⟨rfl, hz, rfl⟩ := hv
  obtain ⟨i, hi, rfl⟩ := inB_ix (by omega) hz
  have hx := ixN_nI (i := i) (by omega)
  have e5 : I 243 i = W (23 + 6 * i + 5) := hD.2.2 i (by omega) 5 (by decide)
  refine a_l0 rfl rfl rfl ?_
  refine a_l1 rfl rfl rfl ?_
  refine a_s rfl rfl ?_
  refine a_callV rfl lX11_236 mo_X11_needState (f_needState (i := i) (y := 0) (by omega)) rfl rfl rfl ⟨11, _, rfl, rfl, rfl⟩ rfl (fun v' h' hv => ?_) (fun E h' ex => ?_)
  rotate_left
  · obtain ⟨rfl, hz2, rfl⟩ := ex
    exact ⟨⟨_, (List.mem_cons_of_mem _ List.mem_cons_self), ((if_pos hz).trans (if_neg (by rw [hx, ← e5]; exact hz2))), rfl⟩, rfl⟩
  obtain ⟨rfl, hz2, rfl⟩ := hv
  have vy : vS (dn W) W 0 (nI i) = 0 := (if_pos hz).trans (if_pos (by rw [hx, ← e5]; exact hz2))
  refine a_l0 rfl rfl rfl ?_
  refine a_eV0 rfl lX11_230 mo_X11_rememberAct (f_remember h13 hn h12 hf) rfl rfl rfl ⟨11, _, rfl, rfl, rfl⟩ rfl ?_
  refine a_l0 rfl rfl rfl ?_
  refine a_getq rfl gfX11_37_11 rfl (rfl) ?_
  refine a_getq rfl gfX11_159_5 rfl (rfl) ?_
  refine a_l1 rfl rfl rfl ?_
  refine a_s rfl rfl ?_
  refine a_eS0 rfl lX11_243 mo_X11_setAt (sp_X11_setAt rfl) rfl rfl rfl rfl ?_
  rw [setF_nI (show i < 12 by omega) (by decide)]
  refine a_l0 rfl rfl rfl ?_
  refine a_getq rfl gfX11_37_11 rfl (rfl) ?_
  refine a_getq rfl gfX11_147_5 rfl (rfl) ?_
  refine a_l1 rfl rfl rfl ?_
  refine a_eS1 rfl lX11_117 mo_X11_at (sp_X11_at rfl) rfl rfl rfl rfl ?_
  exact a_iret rfl rfl (QAc.yes vy (by rw [atF_nI (show i < 12 by omega) (by decide), hx, up2_row (by decide), reS_row (by decide) (by decide)]; exact hD.2.2 i (by omega) 1 (by decide)) (by rw [hx]))
theorem f_recall (hD : Sd I 235 W) (hW : WOk W) (h13 : I 200 13 = nI n) (hn : n ≤ 12) (h12 : I 200 12 = nI fa) (hf : fa < 12) {x1 : Int32} : Sp S m_X11_recall 16 2 12 [.ref 200, .int x1] (hp I L w1 w2 t) (QAc I n fa (vS (dn W) W 2 x1) (W (23 + 6 * ixN x1 + 2)) (fun J => up2 J 243 (ixN x1) 0) L w1 w2 t) (XAc I (vS (dn W) W 2 x1) [(1, 0), (2, 2)] L w1 w2) := by
  have hd3 : I 235 3 = nI (dn W) := (Sd.fd hD (f := 3) (g := 1) (by decide)).trans hW.2.2.2
  have hp0 : I 235 0 = nI (pn W) := (Sd.fd hD (f := 0) (g := 0) (by decide)).trans hW.2.2.1
  have hd12 := hW.2.1
  have hp6 := hW.1
  refine Sp_of ok_X11_recall rfl rfl ?_
  show AW S m_X11_recall 16 _ _ 2 12 0 [some (.ref 200), some (.int x1)] [] (hp I L w1 w2 t)
  refine a_l0 rfl rfl rfl ?_
  refine a_l1 rfl rfl rfl ?_
  refine a_callV rfl lX11_141 mo_X11_needDuty (f_needDuty hd3 (by omega)) rfl rfl rfl ⟨11, _, rfl, rfl, rfl⟩ rfl (fun v' h' hv => ?_) (fun E h' ex => ?_)
  rotate_left
  · obtain ⟨rfl, hz, rfl⟩ := ex
    exact ⟨⟨_, List.mem_cons_self, (if_neg (by rw [hz]; exact Bool.false_ne_true)), rfl⟩, rfl⟩
  obtain ⟨rfl, hz, rfl⟩ := hv
  obtain ⟨i, hi, rfl⟩ := inB_ix (by omega) hz
  have hx := ixN_nI (i := i) (by omega)
  have e5 : I 243 i = W (23 + 6 * i + 5) := hD.2.2 i (by omega) 5 (by decide)
  refine a_l0 rfl rfl rfl ?_
  refine a_l1 rfl rfl rfl ?_
  refine a_s rfl rfl ?_
  refine a_callV rfl lX11_236 mo_X11_needState (f_needState (i := i) (y := 2) (by omega)) rfl rfl rfl ⟨11, _, rfl, rfl, rfl⟩ rfl (fun v' h' hv => ?_) (fun E h' ex => ?_)
  rotate_left
  · obtain ⟨rfl, hz2, rfl⟩ := ex
    exact ⟨⟨_, (List.mem_cons_of_mem _ List.mem_cons_self), ((if_pos hz).trans (if_neg (by rw [hx, ← e5]; exact hz2))), rfl⟩, rfl⟩
  obtain ⟨rfl, hz2, rfl⟩ := hv
  have vy : vS (dn W) W 2 (nI i) = 0 := (if_pos hz).trans (if_pos (by rw [hx, ← e5]; exact hz2))
  refine a_l0 rfl rfl rfl ?_
  refine a_eV0 rfl lX11_230 mo_X11_rememberAct (f_remember h13 hn h12 hf) rfl rfl rfl ⟨11, _, rfl, rfl, rfl⟩ rfl ?_
  refine a_l0 rfl rfl rfl ?_
  refine a_getq rfl gfX11_37_11 rfl (rfl) ?_
  refine a_getq rfl gfX11_159_5 rfl (rfl) ?_
  refine a_l1 rfl rfl rfl ?_
  refine a_s rfl rfl ?_
  refine a_eS0 rfl lX11_243 mo_X11_setAt (sp_X11_setAt rfl) rfl rfl rfl rfl ?_
  rw [setF_nI (show i < 12 by omega) (by decide)]
  refine a_l0 rfl rfl rfl ?_
  refine a_getq rfl gfX11_37_11 rfl (rfl) ?_
  refine a_getq rfl gfX11_150_5 rfl (rfl) ?_
  refine a_l1 rfl rfl rfl ?_
  refine a_eS1 rfl lX11_117 mo_X11_at (sp_X11_at rfl) rfl rfl rfl rfl ?_
  exact a_iret rfl rfl (QAc.yes vy (by rw [atF_nI (show i < 12 by omega) (by decide), hx, up2_row (by decide), reS_row (by decide) (by decide)]; exact hD.2.2 i (by omega) 2 (by decide)) (by rw [hx]))
theorem f_hand (hD : Sd I 235 W) (hW : WOk W) (h13 : I 200 13 = nI n) (hn : n ≤ 12) (h12 : I 200 12 = nI fa) (hf : fa < 12) {x1 x2 : Int32} : Sp S m_X11_hand 16 4 24 [.ref 200, .int x1, .int x2] (hp I L w1 w2 t) (QAc I n fa (vH (dn W) (pn W) W x1 x2) (W (23 + 6 * ixN x1 + 0)) (fun J => up2 J 238 (ixN x1) x2) L w1 w2 t) (XAc I (vH (dn W) (pn W) W x1 x2) [(1, 0), (2, 1), (3, 2)] L w1 w2) := by
  have hd3 : I 235 3 = nI (dn W) := (Sd.fd hD (f := 3) (g := 1) (by decide)).trans hW.2.2.2
  have hp0 : I 235 0 = nI (pn W) := (Sd.fd hD (f := 0) (g := 0) (by decide)).trans hW.2.2.1
  have hd12 := hW.2.1
  have hp6 := hW.1
  refine Sp_of ok_X11_hand rfl rfl ?_
  show AW S m_X11_hand 16 _ _ 4 24 0 [some (.ref 200), some (.int x1), some (.int x2), none] [] (hp I L w1 w2 t)
  refine a_l0 rfl rfl rfl ?_
  refine a_l1 rfl rfl rfl ?_
  refine a_callV rfl lX11_141 mo_X11_needDuty (f_needDuty hd3 (by omega)) rfl rfl rfl ⟨11, _, rfl, rfl, rfl⟩ rfl (fun v' h' hv => ?_) (fun E h' ex => ?_)
  rotate_left
  · obtain ⟨rfl, hz, rfl⟩ := ex
    exact ⟨⟨_, List.mem_cons_self, (if_neg (fun z => by rw [hz] at z; exact Bool.false_ne_true z.1)), rfl⟩, rfl⟩
  obtain ⟨rfl, hz, rfl⟩ := hv
  obtain ⟨i, hi, rfl⟩ := inB_ix (by omega) hz
  have hx := ixN_nI (i := i) (by omega)
  have e0 : I 238 i = W (23 + 6 * i + 0) := hD.2.2 i (by omega) 0 (by decide)
  have e5 : I 243 i = W (23 + 6 * i + 5) := hD.2.2 i (by omega) 5 (by decide)
  refine a_l0 rfl rfl rfl ?_
  refine a_l2 rfl rfl rfl ?_
  refine a_callV rfl lX11_110 mo_X11_needPerson (f_needPerson hp0 (by omega)) rfl rfl rfl ⟨11, _, rfl, rfl, rfl⟩ rfl (fun v' h' hv => ?_) (fun E h' ex => ?_)
  rotate_left
  · obtain ⟨rfl, hz2, rfl⟩ := ex
    exact ⟨⟨_, List.mem_cons_self, (if_neg (fun z => by rw [hz2] at z; exact Bool.false_ne_true z.2)), rfl⟩, rfl⟩
  obtain ⟨rfl, hz2, rfl⟩ := hv
  refine a_l0 rfl rfl rfl ?_
  refine a_getq rfl gfX11_37_11 rfl (rfl) ?_
  refine a_getq rfl gfX11_144_5 rfl (rfl) ?_
  refine a_l1 rfl rfl rfl ?_
  refine a_eS1 rfl lX11_117 mo_X11_at (sp_X11_at rfl) rfl rfl rfl rfl ?_
  refine a_top (y := W (23 + 6 * i + 0)) ((atF_nI (show i < 12 by omega) (by decide)).trans e0) ?_
  refine a_s3 rfl rfl rfl rfl rfl rfl ?_
  refine a_l3 rfl rfl rfl ?_
  refine a_l2 rfl rfl rfl ?_
  refine a_callS rfl lX11_247 mo_X11_needTwo (f_needTwo) rfl rfl rfl rfl (fun v' h' hv => ?_) (fun E h' ex => ?_)
  rotate_left
  · obtain ⟨rfl, hz3, rfl⟩ := ex
    exact ⟨⟨_, (List.mem_cons_of_mem _ List.mem_cons_self), ((if_pos ⟨hz, hz2⟩).trans (if_pos (by rw [hx]; exact hz3))), rfl⟩, rfl⟩
  obtain ⟨rfl, hz3, rfl⟩ := hv
  refine a_l0 rfl rfl rfl ?_
  refine a_getq rfl gfX11_37_11 rfl (rfl) ?_
  refine a_getq rfl gfX11_159_5 rfl (rfl) ?_
  refine a_l1 rfl rfl rfl ?_
  refine a_eS1 rfl lX11_117 mo_X11_at (sp_X11_at rfl) rfl rfl rfl rfl ?_
  refine a_top (y := W (23 + 6 * i + 5)) ((atF_nI (show i < 12 by omega) (by decide)).trans e5) ?_
  refine a_s rfl rfl ?_
  refine a_ic_ne rfl (fun c => ?_) (fun c => ?_)
  rotate_left
  · exact a_throw rfl rfl rfl rfl tX11_ise rfl rfl rfl rfl rfl ⟨⟨_, (List.mem_cons_of_mem _ (List.mem_cons_of_mem _ List.mem_cons_self)), (if_pos ⟨hz, hz2⟩).trans ((if_neg (by rw [hx]; exact hz3)).trans (if_pos (by rw [hx]; exact c))), rfl⟩, rfl⟩
  refine a_l0 rfl rfl rfl ?_
  refine a_eV0 rfl lX11_230 mo_X11_rememberAct (f_remember h13 hn h12 hf) rfl rfl rfl ⟨11, _, rfl, rfl, rfl⟩ rfl ?_
  refine a_l0 rfl rfl rfl ?_
  refine a_getq rfl gfX11_37_11 rfl (rfl) ?_
  refine a_getq rfl gfX11_144_5 rfl (rfl) ?_
  refine a_l1 rfl rfl rfl ?_
  refine a_l2 rfl rfl rfl ?_
  refine a_eS0 rfl lX11_243 mo_X11_setAt (sp_X11_setAt rfl) rfl rfl rfl rfl ?_
  rw [setF_nI (show i < 12 by omega) (by decide)]
  refine a_l3 rfl rfl rfl ?_
  exact a_iret rfl rfl (QAc.yes ((if_pos ⟨hz, hz2⟩).trans ((if_neg (by rw [hx]; exact hz3)).trans (if_neg (by rw [hx]; exact c)))) (by rw [hx]) (by rw [hx]))
theorem f_lean (hD : Sd I 235 W) (hW : WOk W) (h13 : I 200 13 = nI n) (hn : n ≤ 12) (h12 : I 200 12 = nI fa) (hf : fa < 12) {x1 x2 : Int32} : Sp S m_X11_lean 16 3 18 [.ref 200, .int x1, .int x2] (hp I L w1 w2 t) (QAc I n fa (vL (dn W) x1 x2) (W (23 + 6 * ixN x1 + 4)) (fun J => up2 J 242 (ixN x1) x2) L w1 w2 t) (XAc I (vL (dn W) x1 x2) [(1, 0), (2, 1)] L w1 w2) := by
  have hd3 : I 235 3 = nI (dn W) := (Sd.fd hD (f := 3) (g := 1) (by decide)).trans hW.2.2.2
  have hp0 : I 235 0 = nI (pn W) := (Sd.fd hD (f := 0) (g := 0) (by decide)).trans hW.2.2.1
  have hd12 := hW.2.1
  have hp6 := hW.1
  refine Sp_of ok_X11_lean rfl rfl ?_
  show AW S m_X11_lean 16 _ _ 3 18 0 [some (.ref 200), some (.int x1), some (.int x2), none] [] (hp I L w1 w2 t)
  refine a_l0 rfl rfl rfl ?_
  refine a_l1 rfl rfl rfl ?_
  refine a_callV rfl lX11_141 mo_X11_needDuty (f_needDuty hd3 (by omega)) rfl rfl rfl ⟨11, _, rfl, rfl, rfl⟩ rfl (fun v' h' hv => ?_) (fun E h' ex => ?_)
  rotate_left
  · obtain ⟨rfl, hz, rfl⟩ := ex
    exact ⟨⟨_, List.mem_cons_self, (if_neg (fun z => by rw [hz] at z; exact Bool.false_ne_true z.1)), rfl⟩, rfl⟩
  obtain ⟨rfl, hz, rfl⟩ := hv
  obtain ⟨i, hi, rfl⟩ := inB_ix (by omega) hz
  have hx := ixN_nI (i := i) (by omega)
  have e4 : I 242 i = W (23 + 6 * i + 4) := hD.2.2 i (by omega) 4 (by decide)
  have k15 : (x2 = -1 ∨ inB x2 0 (nI (dn W) - 1) = true) → AW S m_X11_lean 16 (QAc I n fa (vL (dn W) (nI i) x2) (W (23 + 6 * ixN (nI i) + 4)) (fun J => up2 J 242 (ixN (nI i)) x2) L w1 w2 t) (XAc I (vL (dn W) (nI i) x2) [(1, 0), (2, 1)] L w1 w2) 1 6 15 [some (.ref 200), some (.int (nI i)), some (.int x2), none] [] (hp I L w1 w2 t) := by
    intro hy
    refine a_l1 rfl rfl rfl ?_
    refine a_l2 rfl rfl rfl ?_
    refine a_callS rfl lX11_247 mo_X11_needTwo (f_needTwo) rfl rfl rfl rfl (fun v' h' hv => ?_) (fun E h' ex => ?_)
    rotate_left
    · obtain ⟨rfl, hz3, rfl⟩ := ex
      exact ⟨⟨_, (List.mem_cons_of_mem _ List.mem_cons_self), (if_pos ⟨hz, hy⟩).trans (if_pos hz3), rfl⟩, rfl⟩
    obtain ⟨rfl, hz3, rfl⟩ := hv
    refine a_l0 rfl rfl rfl ?_
    refine a_getq rfl gfX11_37_11 rfl (rfl) ?_
    refine a_getq rfl gfX11_156_5 rfl (rfl) ?_
    refine a_l1 rfl rfl rfl ?_
    refine a_eS1 rfl lX11_117 mo_X11_at (sp_X11_at rfl) rfl rfl rfl rfl ?_
    refine a_top (y := W (23 + 6 * i + 4)) ((atF_nI (show i < 12 by omega) (by decide)).trans e4) ?_
    refine a_s3 rfl rfl rfl rfl rfl rfl ?_
    refine a_l0 rfl rfl rfl ?_
    refine a_eV0 rfl lX11_230 mo_X11_rememberAct (f_remember h13 hn h12 hf) rfl rfl rfl ⟨11, _, rfl, rfl, rfl⟩ rfl ?_
    refine a_l0 rfl rfl rfl ?_
    refine a_getq rfl gfX11_37_11 rfl (rfl) ?_
    refine a_getq rfl gfX11_156_5 rfl (rfl) ?_
    refine a_l1 rfl rfl rfl ?_
    refine a_l2 rfl rfl rfl ?_
    refine a_eS0 rfl lX11_243 mo_X11_setAt (sp_X11_setAt rfl) rfl rfl rfl rfl ?_
    rw [setF_nI (show i < 12 by omega) (by decide)]
    refine a_l3 rfl rfl rfl ?_
    exact a_iret rfl rfl (QAc.yes ((if_pos ⟨hz, hy⟩).trans (if_neg hz3)) (by rw [hx]) (by rw [hx]))
  refine a_l2 rfl rfl rfl ?_
  refine a_s rfl rfl ?_
  refine a_ic_eq rfl (fun c => ?_) (fun c => ?_)
  · exact a_bud (by decide) (by decide) (k15 (Or.inl c))
  refine a_l0 rfl rfl rfl ?_
  refine a_l2 rfl rfl rfl ?_
  refine a_callV rfl lX11_141 mo_X11_needDuty (f_needDuty hd3 (by omega)) rfl rfl rfl ⟨11, _, rfl, rfl, rfl⟩ rfl (fun v' h' hv => ?_) (fun E h' ex => ?_)
  rotate_left
  · obtain ⟨rfl, hz2, rfl⟩ := ex
    exact ⟨⟨_, List.mem_cons_self, (if_neg (fun z => z.2.elim c (fun y => by rw [hz2] at y; exact Bool.false_ne_true y))), rfl⟩, rfl⟩
  obtain ⟨rfl, hz2, rfl⟩ := hv
  exact k15 (Or.inr hz2)
theorem f_free (hD : Sd I 235 W) (hW : WOk W) (h13 : I 200 13 = nI n) (hn : n ≤ 12) (h12 : I 200 12 = nI fa) (hf : fa < 12) {x1 x2 : Int32} : Sp S m_X11_free 16 2 12 [.ref 200, .int x1, .int x2] (hp I L w1 w2 t) (QAc I n fa (vF (pn W) x1 x2) (W (11 + 2 * ixN x1 + 1)) (fun J => up2 J 237 (ixN x1) x2) L w1 w2 t) (XAc I (vF (pn W) x1 x2) [(1, 0), (2, 1)] L w1 w2) := by
  have hd3 : I 235 3 = nI (dn W) := (Sd.fd hD (f := 3) (g := 1) (by decide)).trans hW.2.2.2
  have hp0 : I 235 0 = nI (pn W) := (Sd.fd hD (f := 0) (g := 0) (by decide)).trans hW.2.2.1
  have hd12 := hW.2.1
  have hp6 := hW.1
  refine Sp_of ok_X11_free rfl rfl ?_
  show AW S m_X11_free 16 _ _ 2 12 0 [some (.ref 200), some (.int x1), some (.int x2), none] [] (hp I L w1 w2 t)
  refine a_l0 rfl rfl rfl ?_
  refine a_l1 rfl rfl rfl ?_
  refine a_callV rfl lX11_110 mo_X11_needPerson (f_needPerson hp0 (by omega)) rfl rfl rfl ⟨11, _, rfl, rfl, rfl⟩ rfl (fun v' h' hv => ?_) (fun E h' ex => ?_)
  rotate_left
  · obtain ⟨rfl, hz, rfl⟩ := ex
    exact ⟨⟨_, List.mem_cons_self, (if_neg (by rw [hz]; exact Bool.false_ne_true)), rfl⟩, rfl⟩
  obtain ⟨rfl, hz, rfl⟩ := hv
  obtain ⟨i, hi, rfl⟩ := inB_ix (by omega) hz
  have hx := ixN_nI (i := i) (by omega)
  refine a_l2 rfl rfl rfl ?_
  refine a_s rfl rfl ?_
  refine a_s rfl rfl ?_
  refine a_callS rfl lX11_250 mo_X11_needNumber (f_needNumber) rfl rfl rfl rfl (fun v' h' hv => ?_) (fun E h' ex => ?_)
  rotate_left
  · obtain ⟨rfl, hz2, rfl⟩ := ex
    exact ⟨⟨_, (List.mem_cons_of_mem _ List.mem_cons_self), ((if_pos hz).trans (if_neg (by rw [hz2]; exact Bool.false_ne_true))), rfl⟩, rfl⟩
  obtain ⟨rfl, hz2, rfl⟩ := hv
  refine a_l0 rfl rfl rfl ?_
  refine a_getq rfl gfX11_37_11 rfl (rfl) ?_
  refine a_getq rfl gfX11_121_5 rfl (rfl) ?_
  refine a_l1 rfl rfl rfl ?_
  refine a_eS1 rfl lX11_117 mo_X11_at (sp_X11_at rfl) rfl rfl rfl rfl ?_
  refine a_top (y := W (11 + 2 * i + 1)) ((atF_nI (show i < 6 by omega) (by decide)).trans (hD.2.1 i (by omega)).2) ?_
  refine a_s3 rfl rfl rfl rfl rfl rfl ?_
  refine a_l0 rfl rfl rfl ?_
  refine a_eV0 rfl lX11_230 mo_X11_rememberAct (f_remember h13 hn h12 hf) rfl rfl rfl ⟨11, _, rfl, rfl, rfl⟩ rfl ?_
  refine a_l0 rfl rfl rfl ?_
  refine a_getq rfl gfX11_37_11 rfl (rfl) ?_
  refine a_getq rfl gfX11_121_5 rfl (rfl) ?_
  refine a_l1 rfl rfl rfl ?_
  refine a_l2 rfl rfl rfl ?_
  refine a_eS0 rfl lX11_243 mo_X11_setAt (sp_X11_setAt rfl) rfl rfl rfl rfl ?_
  rw [setF_nI (show i < 6 by omega) (by decide)]
  refine a_l3 rfl rfl rfl ?_
  exact a_iret rfl rfl (QAc.yes ((if_pos hz).trans (if_pos hz2)) (by rw [hx]) (by rw [hx]))
end T79t
