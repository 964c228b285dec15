/-! ===== the class: a line of the law, sums, growth, shame ===== -/
theorem nI_sub {n j : Nat} (h : j ≤ n) : nI n - nI j = nI (n - j) := by
  obtain ⟨i, rfl⟩ := Nat.exists_eq_add_of_le h
  rw [← nI_addl, show j + i - j = i by omega, Int32.add_comm, Int32.add_sub_cancel]
theorem tyS_lt {c : Nat} {s t : List Bool} (h : tyS c s = some t) (h2 : c < 2000) : c < 1009 := by
  by_cases h1 : c < 1009
  · exact h1
  · exfalso
    unfold tyS at h
    rw [if_neg (by omega), if_neg h1, if_neg (by omega), if_neg (by omega), if_neg (by omega), if_neg (by omega)] at h
    cases h
theorem stpF_num {F : Nat → Int32} {c : Nat} {r : List Int32} (h : c < 1000) : stpF F c r = nI c :: r := by
  unfold stpF
  rw [if_pos h]
theorem stpF_fact {F : Nat → Int32} {c : Nat} {r : List Int32} (h : ¬ c < 1000) (h2 : c < 2000) : stpF F c r = F (c - 1000) :: r := by
  unfold stpF
  rw [if_neg h, if_pos h2]
set_option maxRecDepth 100000
theorem sp_X2_holds {S : aS} {I : Nat → Nat → Int32} {L : Nat → Nat → Int64} {w1 w2 t : Nat} {b n a N : Nat} {cd : Nat → Nat} {F : Nat → Int32} (hb : lwp b) (hn12 : n < 12) (h2 : I (b + 3) n = nI a) (h3 : I (b + 4) n = nI (a + N)) (hab : a + N ≤ 400) (hc : ∀ i, i < a + N → I (b + 5) i = nI (cd i)) (hF : ∀ k, k < 9 → I (b + 6) k = F k) (hF01 : ∀ k, k = 7 ∨ k = 8 → F k = 0 ∨ F k = 1) (hok : LineOk cd a N) : Sp S m_X2_holds 14 0 0 [.ref b, .int (nI n)] (hp I L w1 w2 t) (fun v h' => v = some (.int (bI (lineF F cd a N))) ∧ ∃ f, h' = hp (upr I (b + 7) f) L w1 w2 t) (fun _ _ => False) := by
  refine Sp_of ok_X2_holds rfl rfl ?_
  show AW S m_X2_holds 14 _ _ 0 0 0 [some (.ref b), some (.int (nI n)), none, none, none, none] [] (hp I L w1 w2 t)
  refine a_s rfl rfl ?_
  refine a_s2 rfl rfl rfl rfl rfl rfl ?_
  refine a_l0 rfl rfl rfl ?_
  refine a_getq rfl gfX2_25_2 (kW0 hb) (rW5 hb) ?_
  refine a_l1 rfl rfl rfl ?_
  refine a_eSN1 rfl lX2_61 mo_X11_at ((sp_X11_at (n := 12) (kW4 hb)).cast (r' := some (.int (nI (a + N)))) (by rw [atF_nI (by omega) (by decide), h3]) rfl) rfl rfl rfl rfl ?_
  refine a_s3 rfl rfl rfl rfl rfl rfl ?_
  refine a_l0 rfl rfl rfl ?_
  refine a_getq rfl gfX2_22_2 (kW0 hb) (rW4 hb) ?_
  refine a_l1 rfl rfl rfl ?_
  refine a_eSN1 rfl lX2_61 mo_X11_at ((sp_X11_at (n := 12) (kW3 hb)).cast (r' := some (.int (nI a))) (by rw [atF_nI (by omega) (by decide), h2]) rfl) rfl rfl rfl rfl ?_
  refine a_s4 rfl rfl rfl rfl rfl rfl ?_
  skip
  refine a_inv (n := N) (fun mm ls h => ∃ j v, j + mm = N ∧ ls = [some (.ref b), some (.int (nI n)), some (.int (nI (runF F cd a j).length)), some (.int (nI (a + N))), some (.int (nI (a + j))), none] ∧ h = hp (upr I (b + 7) v) L w1 w2 t ∧ Stk (runF F cd a j) v) ⟨0, I (b + 7), by omega, rfl, by rw [upr_self], trivial⟩ ?_
  rintro mm _ _ ⟨j, v, hj, rfl, rfl, hv⟩ ih
  obtain ⟨tj, htj, h24j⟩ := hok.2 j (by omega)
  have hlen := (VOK.run hF01 htj).len
  by_cases hjN : j = N
  · subst hjN
    refine a_l4 rfl rfl rfl ?_
    refine a_l3 rfl rfl rfl ?_
    refine a_ic_ge rfl (fun c24 => ?_) (fun c => absurd (Int32.le_refl _) c)
    skip
    rcases hok.1 with e | e
    · have hs : runF F cd a j = [] := by
        have := VOK.run hF01 e
        cases hs : runF F cd a j with
        | nil => rfl
        | cons x r => rw [hs] at this; exact False.elim this
      rw [hs]
      refine a_l2 rfl rfl rfl ?_
      refine a_if_eq rfl (fun c162 => ?_) (fun c => absurd (rfl) c)
      refine a_s rfl rfl ?_
      refine a_goto rfl ?_
      refine a_zret rfl rfl rfl ⟨by simp [lineF, hs, bI], v, rfl⟩
    · obtain ⟨x, hs, h01⟩ : ∃ x, runF F cd a j = [x] ∧ (x = 0 ∨ x = 1) := by
        have := VOK.run hF01 e
        rcases hs : runF F cd a j with _ | ⟨x, _ | ⟨y, r⟩⟩
        · rw [hs] at this; exact False.elim this
        · rw [hs] at this; exact ⟨x, rfl, this.1 rfl⟩
        · rw [hs] at this; exact False.elim this.2
      rw [hs] at hv ⊢
      simp only [List.length_cons, List.length_nil]
      refine a_l2 rfl rfl rfl ?_
      refine a_if_eq rfl (fun c => absurd c (by decide)) (fun c162 => ?_)
      refine a_l0 rfl rfl rfl ?_
      refine a_getq rfl gfX2_34_2 (kW0 hb) (rW8 hb) ?_
      refine a_s rfl rfl ?_
      refine a_eSN1 rfl lX2_61 mo_X11_at ((sp_X11_at (n := 32) (kW7 hb)).cast (r' := some (.int x)) (by rw [upr_at, show (0 : Int32) = nI 0 from rfl, atF_nI (by decide) (by decide)]; exact congrArg (fun z => some (Value.int z)) hv.1) rfl) rfl rfl rfl rfl ?_
      refine a_if_eq rfl (fun c173 => ?_) (fun c173 => ?_)
      · refine a_s rfl rfl ?_
        refine a_zret rfl rfl rfl ⟨by rcases h01 with rfl | rfl <;> simp_all [lineF, bI], v, rfl⟩
      · refine a_s rfl rfl ?_
        refine a_goto rfl ?_
        refine a_zret rfl rfl rfl ⟨by rcases h01 with rfl | rfl <;> simp_all [lineF, bI], v, rfl⟩
  · obtain ⟨t', ht', h24⟩ := hok.2 (j + 1) (by omega)
    obtain ⟨t0, ht0, hts⟩ := tyR_prev ht'
    by_cases hk1 : cd (a + j) < 1000
    · have hr : runF F cd a (j + 1) = nI (cd (a + j)) :: runF F cd a j := stpF_num hk1
      refine a_l4 rfl rfl rfl ?_
      refine a_l3 rfl rfl rfl ?_
      refine a_ic_ge rfl (fun c => absurd c (nI_ge (by omega) (by omega))) (fun c24 => ?_)
      refine a_l0 rfl rfl rfl ?_
      refine a_getq rfl gfX2_28_2 (kW0 hb) (rW6 hb) ?_
      refine a_l4 rfl rfl rfl ?_
      refine a_eSN1 rfl lX2_61 mo_X11_at ((sp_X11_at (n := 400) (kW5 hb)).cast (r' := some (.int (nI (cd (a + j))))) (by rw [upr_row (by omega), atF_nI (by omega) (by decide), hc _ (by omega)]) rfl) rfl rfl rfl rfl ?_
      refine a_s5 rfl rfl rfl rfl rfl rfl ?_
      refine a_l5 rfl rfl rfl ?_
      refine a_s rfl rfl ?_
      refine a_ic_ge rfl (fun c => absurd c (nI_ge (b := 2000) (by omega) (by decide))) (fun c43 => ?_)
      refine a_l0 rfl rfl rfl ?_
      refine a_getq rfl gfX2_34_2 (kW0 hb) (rW8 hb) ?_
      refine a_l2 rfl rfl rfl ?_
      refine a_l5 rfl rfl rfl ?_
      refine a_s rfl rfl ?_
      refine a_ic_ge rfl (fun c => absurd c (nI_ge (b := 1000) (by omega) (by decide))) (fun c56 => ?_)
      refine a_l5 rfl rfl rfl ?_
      refine a_goto rfl ?_
      refine a_eSN0 rfl lX2_44 mo_X11_setAt (sp_X11_setAt (n := 32) (kW7 hb)) rfl rfl rfl rfl ?_
      rw [setF_nI (by omega) (by decide), up2_upr]
      refine a_i2 rfl rfl rfl ?_
      refine a_goto rfl ?_
      refine a_i4 rfl rfl rfl ?_
      refine a_goto rfl ?_
      exact a_back (ih (mm - 1) _ _ (by omega) ⟨j + 1, _, by omega, rfl, rfl, by rw [hr]; exact ⟨if_pos rfl, Stk.upd hv fun q hq => if_neg (by omega)⟩⟩) (by simp [lsub, nI_1, hr, ← Nat.add_assoc]) rfl
    · by_cases hk2 : cd (a + j) < 2000
      · have hk3 := tyS_lt hts hk2
        have hr : runF F cd a (j + 1) = F (cd (a + j) - 1000) :: runF F cd a j := stpF_fact hk1 hk2
        refine a_l4 rfl rfl rfl ?_
        refine a_l3 rfl rfl rfl ?_
        refine a_ic_ge rfl (fun c => absurd c (nI_ge (by omega) (by omega))) (fun c24 => ?_)
        refine a_l0 rfl rfl rfl ?_
        refine a_getq rfl gfX2_28_2 (kW0 hb) (rW6 hb) ?_
        refine a_l4 rfl rfl rfl ?_
        refine a_eSN1 rfl lX2_61 mo_X11_at ((sp_X11_at (n := 400) (kW5 hb)).cast (r' := some (.int (nI (cd (a + j))))) (by rw [upr_row (by omega), atF_nI (by omega) (by decide), hc _ (by omega)]) rfl) rfl rfl rfl rfl ?_
        refine a_s5 rfl rfl rfl rfl rfl rfl ?_
        refine a_l5 rfl rfl rfl ?_
        refine a_s rfl rfl ?_
        refine a_ic_ge rfl (fun c => absurd c (nI_ge (b := 2000) (by omega) (by decide))) (fun c43 => ?_)
        refine a_l0 rfl rfl rfl ?_
        refine a_getq rfl gfX2_34_2 (kW0 hb) (rW8 hb) ?_
        refine a_l2 rfl rfl rfl ?_
        refine a_l5 rfl rfl rfl ?_
        refine a_s rfl rfl ?_
        refine a_ic_ge rfl (fun c56 => ?_) (fun c => absurd (Int32.not_lt.mp (nI_nlu (n := cd (a + j)) (j := 1000) (by omega) (by omega))) c)
        refine a_l0 rfl rfl rfl ?_
        refine a_getq rfl gfX2_31_2 (kW0 hb) (rW7 hb) ?_
        refine a_l5 rfl rfl rfl ?_
        refine a_s rfl rfl ?_
        refine a_s rfl rfl ?_
        refine a_top (y := nI (cd (a + j) - 1000)) (nI_sub (j := 1000) (by omega)) ?_
        refine a_eSN1 rfl lX2_61 mo_X11_at ((sp_X11_at (n := 9) (kW6 hb)).cast (r' := some (.int (F (cd (a + j) - 1000)))) (by rw [upr_row (by omega), atF_nI (by omega) (by decide), hF _ (by omega)]) rfl) rfl rfl rfl rfl ?_
        refine a_eSN0 rfl lX2_44 mo_X11_setAt (sp_X11_setAt (n := 32) (kW7 hb)) rfl rfl rfl rfl ?_
        rw [setF_nI (by omega) (by decide), up2_upr]
        refine a_i2 rfl rfl rfl ?_
        refine a_goto rfl ?_
        refine a_i4 rfl rfl rfl ?_
        refine a_goto rfl ?_
        exact a_back (ih (mm - 1) _ _ (by omega) ⟨j + 1, _, by omega, rfl, rfl, by rw [hr]; exact ⟨if_pos rfl, Stk.upd hv fun q hq => if_neg (by omega)⟩⟩) (by simp [lsub, nI_1, hr, ← Nat.add_assoc]) rfl
      · by_cases hcd : cd (a + j) = 2003
        · obtain ⟨x, r, hs, hr⟩ := one_of hF01 hcd ht'
          rw [hs] at hv hlen ⊢
          simp only [List.length_cons]
          have hlr : r.length + 1 = tj.length := hlen
          refine a_l4 rfl rfl rfl ?_
          refine a_l3 rfl rfl rfl ?_
          refine a_ic_ge rfl (fun c => absurd c (nI_ge (by omega) (by omega))) (fun c24 => ?_)
          refine a_l0 rfl rfl rfl ?_
          refine a_getq rfl gfX2_28_2 (kW0 hb) (rW6 hb) ?_
          refine a_l4 rfl rfl rfl ?_
          refine a_eSN1 rfl lX2_61 mo_X11_at ((sp_X11_at (n := 400) (kW5 hb)).cast (r' := some (.int (nI 2003))) (by rw [upr_row (by omega), atF_nI (by omega) (by decide), hc _ (by omega), hcd]) rfl) rfl rfl rfl rfl ?_
          refine a_s5 rfl rfl rfl rfl rfl rfl ?_
          refine a_l5 rfl rfl rfl ?_
          refine a_s rfl rfl ?_
          refine a_ic_ge rfl (fun c43 => ?_) (fun c => absurd (by decide) c)
          refine a_l5 rfl rfl rfl ?_
          refine a_s rfl rfl ?_
          refine a_ic_ne rfl (fun c => absurd c (fun z => z rfl)) (fun c91 => ?_)
          refine a_l0 rfl rfl rfl ?_
          refine a_getq rfl gfX2_34_2 (kW0 hb) (rW8 hb) ?_
          refine a_l2 rfl rfl rfl ?_
          refine a_s rfl rfl ?_
          refine a_s rfl rfl ?_
          refine a_top (nI_dec _) ?_
          refine a_s rfl rfl ?_
          refine a_l0 rfl rfl rfl ?_
          refine a_getq rfl gfX2_34_2 (kW0 hb) (rW8 hb) ?_
          refine a_l2 rfl rfl rfl ?_
          refine a_s rfl rfl ?_
          refine a_s rfl rfl ?_
          refine a_top (nI_dec _) ?_
          refine a_eSN1 rfl lX2_61 mo_X11_at ((sp_X11_at (n := 32) (kW7 hb)).cast (r' := some (.int (x))) (by rw [upr_at, atF_nI (by omega) (by decide)]; exact congrArg (fun z => some (Value.int z)) hv.1) rfl) rfl rfl rfl rfl ?_
          refine a_s rfl rfl ?_
          refine a_eSN0 rfl lX2_44 mo_X11_setAt (sp_X11_setAt (n := 32) (kW7 hb)) rfl rfl rfl rfl ?_
          rw [setF_nI (by omega) (by decide), up2_upr]
          refine a_goto rfl ?_
          refine a_i4 rfl rfl rfl ?_
          refine a_goto rfl ?_
          exact a_back (ih (mm - 1) _ _ (by omega) ⟨j + 1, _, by omega, rfl, rfl, by rw [hr]; exact ⟨if_pos rfl, Stk.upd hv.2 fun q hq => if_neg (by omega)⟩⟩) (by simp [lsub, nI_1, hr, ← Nat.add_assoc]) rfl
        · obtain ⟨x, y, r, hs, hr, -⟩ := two_of hF01 (c := cd (a + j)) rfl (by omega) hcd ht'
          rw [hs] at hv hlen ⊢
          simp only [List.length_cons]
          have hlr : r.length + 1 + 1 = tj.length := hlen
          obtain ⟨b0, b', r0, -, -, hcc⟩ := tyS_two (by omega) hcd hts
          have hkk : cd (a + j) = 2000 ∨ cd (a + j) = 2001 ∨ cd (a + j) = 2002 ∨ cd (a + j) = 2004 ∨ cd (a + j) = 2005 := by omega
          rcases hkk with hcd | hcd | hcd | hcd | hcd <;> rw [hcd] at hr
          · refine a_l4 rfl rfl rfl ?_
            refine a_l3 rfl rfl rfl ?_
            refine a_ic_ge rfl (fun c => absurd c (nI_ge (by omega) (by omega))) (fun c24 => ?_)
            refine a_l0 rfl rfl rfl ?_
            refine a_getq rfl gfX2_28_2 (kW0 hb) (rW6 hb) ?_
            refine a_l4 rfl rfl rfl ?_
            refine a_eSN1 rfl lX2_61 mo_X11_at ((sp_X11_at (n := 400) (kW5 hb)).cast (r' := some (.int (nI 2000))) (by rw [upr_row (by omega), atF_nI (by omega) (by decide), hc _ (by omega), hcd]) rfl) rfl rfl rfl rfl ?_
            refine a_s5 rfl rfl rfl rfl rfl rfl ?_
            refine a_l5 rfl rfl rfl ?_
            refine a_s rfl rfl ?_
            refine a_ic_ge rfl (fun c43 => ?_) (fun c => absurd (by decide) c)
            refine a_l5 rfl rfl rfl ?_
            refine a_s rfl rfl ?_
            refine a_ic_ne rfl (fun c91 => ?_) (fun c => absurd c (by decide))
            refine a_i2 rfl rfl rfl ?_
            rw [nI_decm]
            refine a_l0 rfl rfl rfl ?_
            refine a_getq rfl gfX2_34_2 (kW0 hb) (rW8 hb) ?_
            refine a_l2 rfl rfl rfl ?_
            refine a_s rfl rfl ?_
            refine a_s rfl rfl ?_
            refine a_top (nI_dec _) ?_
            refine a_l5 rfl rfl rfl ?_
            refine a_l0 rfl rfl rfl ?_
            refine a_getq rfl gfX2_34_2 (kW0 hb) (rW8 hb) ?_
            refine a_l2 rfl rfl rfl ?_
            refine a_s rfl rfl ?_
            refine a_s rfl rfl ?_
            refine a_top (nI_dec _) ?_
            refine a_eSN1 rfl lX2_61 mo_X11_at ((sp_X11_at (n := 32) (kW7 hb)).cast (r' := some (.int (x))) (by rw [upr_at, atF_nI (by omega) (by decide)]; exact congrArg (fun z => some (Value.int z)) hv.2.1) rfl) rfl rfl rfl rfl ?_
            refine a_l0 rfl rfl rfl ?_
            refine a_getq rfl gfX2_34_2 (kW0 hb) (rW8 hb) ?_
            refine a_l2 rfl rfl rfl ?_
            refine a_eSN1 rfl lX2_61 mo_X11_at ((sp_X11_at (n := 32) (kW7 hb)).cast (r' := some (.int (y))) (by rw [upr_at, atF_nI (by omega) (by decide)]; exact congrArg (fun z => some (Value.int z)) hv.1) rfl) rfl rfl rfl rfl ?_
            refine a_eS1 rfl lX2_108 mo_X2_joined (sp_X2_joined_2000) rfl rfl rfl rfl ?_
            refine a_eSN0 rfl lX2_44 mo_X11_setAt (sp_X11_setAt (n := 32) (kW7 hb)) rfl rfl rfl rfl ?_
            rw [setF_nI (by omega) (by decide), up2_upr]
            refine a_i4 rfl rfl rfl ?_
            refine a_goto rfl ?_
            exact a_back (ih (mm - 1) _ _ (by omega) ⟨j + 1, _, by omega, rfl, rfl, by rw [hr]; exact ⟨if_pos rfl, Stk.upd hv.2.2 fun q hq => if_neg (by omega)⟩⟩) (by simp [lsub, nI_1, hr, ← Nat.add_assoc]) rfl
          · refine a_l4 rfl rfl rfl ?_
            refine a_l3 rfl rfl rfl ?_
            refine a_ic_ge rfl (fun c => absurd c (nI_ge (by omega) (by omega))) (fun c24 => ?_)
            refine a_l0 rfl rfl rfl ?_
            refine a_getq rfl gfX2_28_2 (kW0 hb) (rW6 hb) ?_
            refine a_l4 rfl rfl rfl ?_
            refine a_eSN1 rfl lX2_61 mo_X11_at ((sp_X11_at (n := 400) (kW5 hb)).cast (r' := some (.int (nI 2001))) (by rw [upr_row (by omega), atF_nI (by omega) (by decide), hc _ (by omega), hcd]) rfl) rfl rfl rfl rfl ?_
            refine a_s5 rfl rfl rfl rfl rfl rfl ?_
            refine a_l5 rfl rfl rfl ?_
            refine a_s rfl rfl ?_
            refine a_ic_ge rfl (fun c43 => ?_) (fun c => absurd (by decide) c)
            refine a_l5 rfl rfl rfl ?_
            refine a_s rfl rfl ?_
            refine a_ic_ne rfl (fun c91 => ?_) (fun c => absurd c (by decide))
            refine a_i2 rfl rfl rfl ?_
            rw [nI_decm]
            refine a_l0 rfl rfl rfl ?_
            refine a_getq rfl gfX2_34_2 (kW0 hb) (rW8 hb) ?_
            refine a_l2 rfl rfl rfl ?_
            refine a_s rfl rfl ?_
            refine a_s rfl rfl ?_
            refine a_top (nI_dec _) ?_
            refine a_l5 rfl rfl rfl ?_
            refine a_l0 rfl rfl rfl ?_
            refine a_getq rfl gfX2_34_2 (kW0 hb) (rW8 hb) ?_
            refine a_l2 rfl rfl rfl ?_
            refine a_s rfl rfl ?_
            refine a_s rfl rfl ?_
            refine a_top (nI_dec _) ?_
            refine a_eSN1 rfl lX2_61 mo_X11_at ((sp_X11_at (n := 32) (kW7 hb)).cast (r' := some (.int (x))) (by rw [upr_at, atF_nI (by omega) (by decide)]; exact congrArg (fun z => some (Value.int z)) hv.2.1) rfl) rfl rfl rfl rfl ?_
            refine a_l0 rfl rfl rfl ?_
            refine a_getq rfl gfX2_34_2 (kW0 hb) (rW8 hb) ?_
            refine a_l2 rfl rfl rfl ?_
            refine a_eSN1 rfl lX2_61 mo_X11_at ((sp_X11_at (n := 32) (kW7 hb)).cast (r' := some (.int (y))) (by rw [upr_at, atF_nI (by omega) (by decide)]; exact congrArg (fun z => some (Value.int z)) hv.1) rfl) rfl rfl rfl rfl ?_
            refine a_eS1 rfl lX2_108 mo_X2_joined (sp_X2_joined_2001) rfl rfl rfl rfl ?_
            refine a_eSN0 rfl lX2_44 mo_X11_setAt (sp_X11_setAt (n := 32) (kW7 hb)) rfl rfl rfl rfl ?_
            rw [setF_nI (by omega) (by decide), up2_upr]
            refine a_i4 rfl rfl rfl ?_
            refine a_goto rfl ?_
            exact a_back (ih (mm - 1) _ _ (by omega) ⟨j + 1, _, by omega, rfl, rfl, by rw [hr]; exact ⟨if_pos rfl, Stk.upd hv.2.2 fun q hq => if_neg (by omega)⟩⟩) (by simp [lsub, nI_1, hr, ← Nat.add_assoc]) rfl
          · refine a_l4 rfl rfl rfl ?_
            refine a_l3 rfl rfl rfl ?_
            refine a_ic_ge rfl (fun c => absurd c (nI_ge (by omega) (by omega))) (fun c24 => ?_)
            refine a_l0 rfl rfl rfl ?_
            refine a_getq rfl gfX2_28_2 (kW0 hb) (rW6 hb) ?_
            refine a_l4 rfl rfl rfl ?_
            refine a_eSN1 rfl lX2_61 mo_X11_at ((sp_X11_at (n := 400) (kW5 hb)).cast (r' := some (.int (nI 2002))) (by rw [upr_row (by omega), atF_nI (by omega) (by decide), hc _ (by omega), hcd]) rfl) rfl rfl rfl rfl ?_
            refine a_s5 rfl rfl rfl rfl rfl rfl ?_
            refine a_l5 rfl rfl rfl ?_
            refine a_s rfl rfl ?_
            refine a_ic_ge rfl (fun c43 => ?_) (fun c => absurd (by decide) c)
            refine a_l5 rfl rfl rfl ?_
            refine a_s rfl rfl ?_
            refine a_ic_ne rfl (fun c91 => ?_) (fun c => absurd c (by decide))
            refine a_i2 rfl rfl rfl ?_
            rw [nI_decm]
            refine a_l0 rfl rfl rfl ?_
            refine a_getq rfl gfX2_34_2 (kW0 hb) (rW8 hb) ?_
            refine a_l2 rfl rfl rfl ?_
            refine a_s rfl rfl ?_
            refine a_s rfl rfl ?_
            refine a_top (nI_dec _) ?_
            refine a_l5 rfl rfl rfl ?_
            refine a_l0 rfl rfl rfl ?_
            refine a_getq rfl gfX2_34_2 (kW0 hb) (rW8 hb) ?_
            refine a_l2 rfl rfl rfl ?_
            refine a_s rfl rfl ?_
            refine a_s rfl rfl ?_
            refine a_top (nI_dec _) ?_
            refine a_eSN1 rfl lX2_61 mo_X11_at ((sp_X11_at (n := 32) (kW7 hb)).cast (r' := some (.int (x))) (by rw [upr_at, atF_nI (by omega) (by decide)]; exact congrArg (fun z => some (Value.int z)) hv.2.1) rfl) rfl rfl rfl rfl ?_
            refine a_l0 rfl rfl rfl ?_
            refine a_getq rfl gfX2_34_2 (kW0 hb) (rW8 hb) ?_
            refine a_l2 rfl rfl rfl ?_
            refine a_eSN1 rfl lX2_61 mo_X11_at ((sp_X11_at (n := 32) (kW7 hb)).cast (r' := some (.int (y))) (by rw [upr_at, atF_nI (by omega) (by decide)]; exact congrArg (fun z => some (Value.int z)) hv.1) rfl) rfl rfl rfl rfl ?_
            refine a_eS1 rfl lX2_108 mo_X2_joined (sp_X2_joined_2002) rfl rfl rfl rfl ?_
            refine a_eSN0 rfl lX2_44 mo_X11_setAt (sp_X11_setAt (n := 32) (kW7 hb)) rfl rfl rfl rfl ?_
            rw [setF_nI (by omega) (by decide), up2_upr]
            refine a_i4 rfl rfl rfl ?_
            refine a_goto rfl ?_
            exact a_back (ih (mm - 1) _ _ (by omega) ⟨j + 1, _, by omega, rfl, rfl, by rw [hr]; exact ⟨if_pos rfl, Stk.upd hv.2.2 fun q hq => if_neg (by omega)⟩⟩) (by simp [lsub, nI_1, hr, ← Nat.add_assoc]) rfl
          · refine a_l4 rfl rfl rfl ?_
            refine a_l3 rfl rfl rfl ?_
            refine a_ic_ge rfl (fun c => absurd c (nI_ge (by omega) (by omega))) (fun c24 => ?_)
            refine a_l0 rfl rfl rfl ?_
            refine a_getq rfl gfX2_28_2 (kW0 hb) (rW6 hb) ?_
            refine a_l4 rfl rfl rfl ?_
            refine a_eSN1 rfl lX2_61 mo_X11_at ((sp_X11_at (n := 400) (kW5 hb)).cast (r' := some (.int (nI 2004))) (by rw [upr_row (by omega), atF_nI (by omega) (by decide), hc _ (by omega), hcd]) rfl) rfl rfl rfl rfl ?_
            refine a_s5 rfl rfl rfl rfl rfl rfl ?_
            refine a_l5 rfl rfl rfl ?_
            refine a_s rfl rfl ?_
            refine a_ic_ge rfl (fun c43 => ?_) (fun c => absurd (by decide) c)
            refine a_l5 rfl rfl rfl ?_
            refine a_s rfl rfl ?_
            refine a_ic_ne rfl (fun c91 => ?_) (fun c => absurd c (by decide))
            refine a_i2 rfl rfl rfl ?_
            rw [nI_decm]
            refine a_l0 rfl rfl rfl ?_
            refine a_getq rfl gfX2_34_2 (kW0 hb) (rW8 hb) ?_
            refine a_l2 rfl rfl rfl ?_
            refine a_s rfl rfl ?_
            refine a_s rfl rfl ?_
            refine a_top (nI_dec _) ?_
            refine a_l5 rfl rfl rfl ?_
            refine a_l0 rfl rfl rfl ?_
            refine a_getq rfl gfX2_34_2 (kW0 hb) (rW8 hb) ?_
            refine a_l2 rfl rfl rfl ?_
            refine a_s rfl rfl ?_
            refine a_s rfl rfl ?_
            refine a_top (nI_dec _) ?_
            refine a_eSN1 rfl lX2_61 mo_X11_at ((sp_X11_at (n := 32) (kW7 hb)).cast (r' := some (.int (x))) (by rw [upr_at, atF_nI (by omega) (by decide)]; exact congrArg (fun z => some (Value.int z)) hv.2.1) rfl) rfl rfl rfl rfl ?_
            refine a_l0 rfl rfl rfl ?_
            refine a_getq rfl gfX2_34_2 (kW0 hb) (rW8 hb) ?_
            refine a_l2 rfl rfl rfl ?_
            refine a_eSN1 rfl lX2_61 mo_X11_at ((sp_X11_at (n := 32) (kW7 hb)).cast (r' := some (.int (y))) (by rw [upr_at, atF_nI (by omega) (by decide)]; exact congrArg (fun z => some (Value.int z)) hv.1) rfl) rfl rfl rfl rfl ?_
            refine a_eS1 rfl lX2_108 mo_X2_joined (sp_X2_joined_2004) rfl rfl rfl rfl ?_
            refine a_eSN0 rfl lX2_44 mo_X11_setAt (sp_X11_setAt (n := 32) (kW7 hb)) rfl rfl rfl rfl ?_
            rw [setF_nI (by omega) (by decide), up2_upr]
            refine a_i4 rfl rfl rfl ?_
            refine a_goto rfl ?_
            exact a_back (ih (mm - 1) _ _ (by omega) ⟨j + 1, _, by omega, rfl, rfl, by rw [hr]; exact ⟨if_pos rfl, Stk.upd hv.2.2 fun q hq => if_neg (by omega)⟩⟩) (by simp [lsub, nI_1, hr, ← Nat.add_assoc]) rfl
          · refine a_l4 rfl rfl rfl ?_
            refine a_l3 rfl rfl rfl ?_
            refine a_ic_ge rfl (fun c => absurd c (nI_ge (by omega) (by omega))) (fun c24 => ?_)
            refine a_l0 rfl rfl rfl ?_
            refine a_getq rfl gfX2_28_2 (kW0 hb) (rW6 hb) ?_
            refine a_l4 rfl rfl rfl ?_
            refine a_eSN1 rfl lX2_61 mo_X11_at ((sp_X11_at (n := 400) (kW5 hb)).cast (r' := some (.int (nI 2005))) (by rw [upr_row (by omega), atF_nI (by omega) (by decide), hc _ (by omega), hcd]) rfl) rfl rfl rfl rfl ?_
            refine a_s5 rfl rfl rfl rfl rfl rfl ?_
            refine a_l5 rfl rfl rfl ?_
            refine a_s rfl rfl ?_
            refine a_ic_ge rfl (fun c43 => ?_) (fun c => absurd (by decide) c)
            refine a_l5 rfl rfl rfl ?_
            refine a_s rfl rfl ?_
            refine a_ic_ne rfl (fun c91 => ?_) (fun c => absurd c (by decide))
            refine a_i2 rfl rfl rfl ?_
            rw [nI_decm]
            refine a_l0 rfl rfl rfl ?_
            refine a_getq rfl gfX2_34_2 (kW0 hb) (rW8 hb) ?_
            refine a_l2 rfl rfl rfl ?_
            refine a_s rfl rfl ?_
            refine a_s rfl rfl ?_
            refine a_top (nI_dec _) ?_
            refine a_l5 rfl rfl rfl ?_
            refine a_l0 rfl rfl rfl ?_
            refine a_getq rfl gfX2_34_2 (kW0 hb) (rW8 hb) ?_
            refine a_l2 rfl rfl rfl ?_
            refine a_s rfl rfl ?_
            refine a_s rfl rfl ?_
            refine a_top (nI_dec _) ?_
            refine a_eSN1 rfl lX2_61 mo_X11_at ((sp_X11_at (n := 32) (kW7 hb)).cast (r' := some (.int (x))) (by rw [upr_at, atF_nI (by omega) (by decide)]; exact congrArg (fun z => some (Value.int z)) hv.2.1) rfl) rfl rfl rfl rfl ?_
            refine a_l0 rfl rfl rfl ?_
            refine a_getq rfl gfX2_34_2 (kW0 hb) (rW8 hb) ?_
            refine a_l2 rfl rfl rfl ?_
            refine a_eSN1 rfl lX2_61 mo_X11_at ((sp_X11_at (n := 32) (kW7 hb)).cast (r' := some (.int (y))) (by rw [upr_at, atF_nI (by omega) (by decide)]; exact congrArg (fun z => some (Value.int z)) hv.1) rfl) rfl rfl rfl rfl ?_
            refine a_eS1 rfl lX2_108 mo_X2_joined (sp_X2_joined_2005) rfl rfl rfl rfl ?_
            refine a_eSN0 rfl lX2_44 mo_X11_setAt (sp_X11_setAt (n := 32) (kW7 hb)) rfl rfl rfl rfl ?_
            rw [setF_nI (by omega) (by decide), up2_upr]
            refine a_i4 rfl rfl rfl ?_
            refine a_goto rfl ?_
            exact a_back (ih (mm - 1) _ _ (by omega) ⟨j + 1, _, by omega, rfl, rfl, by rw [hr]; exact ⟨if_pos rfl, Stk.upd hv.2.2 fun q hq => if_neg (by omega)⟩⟩) (by simp [lsub, nI_1, hr, ← Nat.add_assoc]) rfl
