/-! ===== the log: a ring of the class, rows moved on by the reference ===== -/
section T79zb
variable {S : aS} {I : Nat → Nat → Int32} {L : Nat → Nat → Int64} {w1 w2 t : Nat} {a nl len : Nat} {cd fa fn : Nat → Nat} {W : Nat → Int32}
set_option maxRecDepth 100000
/-- the latest rows of both -/
def Lg (I : Nat → Nat → Int32) (a : Nat) (W : Nat → Int32) : Prop := ∃ r n, r ≤ 60 ∧ n < 60 ∧ I (a + 9) 0 = nI r ∧ I (a + 9) 1 = nI n ∧ W 9 = nI r ∧ ∀ k, k < r → ∀ j, j < 4 → I (a + 10) (4 * ((n + 59 - k) % 60) + j) = W (95 + 4 * k + j)
/-- a row more -/
def tell (W : Nat → Int32) (x0 x1 x2 x3 : Int32) : Nat → Int32 := fun j => if 99 ≤ j ∧ j < 335 then W (j - 4) else if j = 95 then x0 else if j = 96 then x1 else if j = 97 then x2 else if j = 98 then x3 else if j = 9 then mn 60 (W 9 + 1) else W j
def adL (I : Nat → Nat → Int32) (n r : Nat) (x0 x1 x2 x3 : Int32) : Nat → Nat → Int32 := up2 (up2 (up2 (up2 (up2 (up2 I 245 (4 * n) x0) 245 (4 * n + 1) x1) 245 (4 * n + 2) x2) 245 (4 * n + 3) x3) 244 1 (nI ((n + 1) % 60))) 244 0 (mn 60 (nI r + 1))
theorem rem60 : ∀ k, k < 61 → nI k - nI k / 60 * 60 = nI (k % 60) := by decide +kernel
theorem f_add {n r : Nat} (h0 : I 244 0 = nI r) (h1 : I 244 1 = nI n) (hn : n < 60) {x0 x1 x2 x3 : Int32} : SpE S m_X1_add 13 [.ref 244, .int x0, .int x1, .int x2, .int x3] (hp I L w1 w2 t) none (hp (adL I n r x0 x1 x2 x3) L w1 w2 t) := by
  refine SpE_of ok_X1_add rfl rfl ?_
  show AW S m_X1_add 13 _ _ 0 0 0 [some (.ref 244), some (.int x0), some (.int x1), some (.int x2), some (.int x3), none] [] (hp I L w1 w2 t)
  refine a_l0 rfl rfl rfl ?_
  refine a_getiv (v := nI n) rfl gfX1_19_1 rfl (h1) ?_
  refine a_s rfl rfl ?_
  refine a_s rfl rfl ?_
  refine a_top (y := nI (4 * n)) (by rw [Nat.mul_comm]; exact nI_mul n 4) ?_
  refine a_s5 rfl rfl rfl rfl rfl rfl ?_
  refine a_l0 rfl rfl rfl ?_
  refine a_getq rfl gfX1_11_1 rfl (rfl) ?_
  refine a_l5 rfl rfl rfl ?_
  refine a_l1 rfl rfl rfl ?_
  refine a_eSN0 rfl lX1_26 mo_X11_setAt (sp_X11_setAt rfl) rfl rfl rfl rfl ?_
  rw [setF_nI (show 4 * n < 240 by omega) (by decide)]
  refine a_l0 rfl rfl rfl ?_
  refine a_getq rfl gfX1_11_1 rfl (rfl) ?_
  refine a_l5 rfl rfl rfl ?_
  refine a_s rfl rfl ?_
  refine a_s rfl rfl ?_
  refine a_top (y := nI (4 * n + 1)) (nI_addl (4 * n) 1) ?_
  refine a_l2 rfl rfl rfl ?_
  refine a_eSN0 rfl lX1_26 mo_X11_setAt (sp_X11_setAt rfl) rfl rfl rfl rfl ?_
  rw [setF_nI (show 4 * n + 1 < 240 by omega) (by decide)]
  refine a_l0 rfl rfl rfl ?_
  refine a_getq rfl gfX1_11_1 rfl (rfl) ?_
  refine a_l5 rfl rfl rfl ?_
  refine a_s rfl rfl ?_
  refine a_s rfl rfl ?_
  refine a_top (y := nI (4 * n + 2)) (nI_addl (4 * n) 2) ?_
  refine a_l3 rfl rfl rfl ?_
  refine a_eSN0 rfl lX1_26 mo_X11_setAt (sp_X11_setAt rfl) rfl rfl rfl rfl ?_
  rw [setF_nI (show 4 * n + 2 < 240 by omega) (by decide)]
  refine a_l0 rfl rfl rfl ?_
  refine a_getq rfl gfX1_11_1 rfl (rfl) ?_
  refine a_l5 rfl rfl rfl ?_
  refine a_s rfl rfl ?_
  refine a_s rfl rfl ?_
  refine a_top (y := nI (4 * n + 3)) (nI_addl (4 * n) 3) ?_
  refine a_l4 rfl rfl rfl ?_
  refine a_eSN0 rfl lX1_26 mo_X11_setAt (sp_X11_setAt rfl) rfl rfl rfl rfl ?_
  rw [setF_nI (show 4 * n + 3 < 240 by omega) (by decide)]
  have g : ∀ q, q ≠ 245 → up2 (up2 (up2 (up2 I 245 (4 * n) x0) 245 (4 * n + 1) x1) 245 (4 * n + 2) x2) 245 (4 * n + 3) x3 q = I q := fun q hq => by rw [up2_row hq, up2_row hq, up2_row hq, up2_row hq]
  refine a_l0 rfl rfl rfl ?_
  refine a_l0 rfl rfl rfl ?_
  refine a_getiv (v := nI n) rfl gfX1_19_1 rfl ((congrFun (g 244 (by decide)) 1).trans h1) ?_
  refine a_s rfl rfl ?_
  refine a_s rfl rfl ?_
  refine a_top (y := nI (n + 1)) ((nI_succ n).symm) ?_
  refine a_s rfl rfl ?_
  refine a_irem rfl (by decide) ?_
  refine a_top (y := nI ((n + 1) % 60)) (rem60 (n + 1) (by omega)) ?_
  refine a_puti rfl pfX1_19_1 rfl ?_
  refine a_l0 rfl rfl rfl ?_
  refine a_s rfl rfl ?_
  refine a_l0 rfl rfl rfl ?_
  refine a_getiv (v := nI r) rfl gfX1_15_1 rfl ((up2_ne (Or.inr (by decide))).trans ((congrFun (g 244 (by decide)) 0).trans h0)) ?_
  refine a_s rfl rfl ?_
  refine a_s rfl rfl ?_
  refine a_min rfl lX1_30 mj_min rfl rfl ?_
  refine a_top (y := mn 60 (nI r + 1)) (rfl) ?_
  refine a_puti rfl pfX1_15_1 rfl ?_
  exact a_vret rfl rfl ⟨rfl, rfl⟩
theorem Lg.add {n r : Nat} {x0 x1 x2 x3 : Int32} (hr : r ≤ 60) (hn : n < 60) (h9 : W 9 = nI r) (hrow : ∀ k, k < r → ∀ j, j < 4 → I 245 (4 * ((n + 59 - k) % 60) + j) = W (95 + 4 * k + j)) : Lg (adL I n r x0 x1 x2 x3) 235 (tell W x0 x1 x2 x3) := by
  have em : mn 60 (nI r + 1) = nI (min 60 (r + 1)) := by rw [← nI_succ, show (60 : Int32) = nI 60 from rfl, mn_nI (by decide) (by omega)]
  refine ⟨min 60 (r + 1), (n + 1) % 60, by omega, Nat.mod_lt _ (by decide), ?_, ?_, ?_, fun k hk j hj => ?_⟩
  · show adL I n r x0 x1 x2 x3 244 0 = _
    unfold adL
    rw [up2_at, em]
  · show adL I n r x0 x1 x2 x3 244 1 = _
    unfold adL
    rw [up2_ne (Or.inr (by decide)), up2_at]
  · unfold tell
    rw [if_neg (by omega), if_neg (by decide), if_neg (by decide), if_neg (by decide), if_neg (by decide), if_pos rfl, h9, em]
  · show adL I n r x0 x1 x2 x3 245 (4 * (((n + 1) % 60 + 59 - k) % 60) + j) = _
    unfold adL
    rw [up2_row (by decide), up2_row (by decide)]
    rcases k with _ | k
    · rw [show ((n + 1) % 60 + 59 - 0) % 60 = n by omega]
      unfold tell
      rcases j with _ | _ | _ | _ | j
      · rw [up2_ne (Or.inr (by omega)), up2_ne (Or.inr (by omega)), up2_ne (Or.inr (by omega))]
        exact up2_at
      · rw [up2_ne (Or.inr (by omega)), up2_ne (Or.inr (by omega))]
        exact up2_at
      · rw [up2_ne (Or.inr (by omega))]
        exact up2_at
      · exact up2_at
      · omega
    · have e : ((n + 1) % 60 + 59 - (k + 1)) % 60 = (n + 59 - k) % 60 := by omega
      have ne : (n + 59 - k) % 60 ≠ n := by omega
      rw [e, up2_ne (Or.inr (by omega)), up2_ne (Or.inr (by omega)), up2_ne (Or.inr (by omega)), up2_ne (Or.inr (by omega)), hrow k (by omega) j hj]
      unfold tell
      rw [if_pos ⟨by omega, by omega⟩]
      congr 1
      omega
theorem Lg.eq {J : Nat → Nat → Int32} {W' : Nat → Int32} (h : Lg I a W) (e9 : J (a + 9) = I (a + 9)) (e10 : J (a + 10) = I (a + 10)) (f9 : W' 9 = W 9) (f : ∀ k, 95 ≤ k → k < 335 → W' k = W k) : Lg J a W' := by
  obtain ⟨r, n, h1, h2, h3, h4, h5, h6⟩ := h
  refine ⟨r, n, h1, h2, by rw [e9]; exact h3, by rw [e9]; exact h4, f9.trans h5, fun k hk j hj => ?_⟩
  rw [e10, f _ (by omega) (by omega)]
  exact h6 k hk j hj
theorem tell_lo {x0 x1 x2 x3 : Int32} {k : Nat} (h : k < 95 ∨ 335 ≤ k) (h9 : k ≠ 9) : tell W x0 x1 x2 x3 k = W k := by
  unfold tell
  rw [if_neg (by omega), if_neg (by omega), if_neg (by omega), if_neg (by omega), if_neg (by omega), if_neg h9]
theorem Sd.tell {x0 x1 x2 x3 : Int32} (h : Sd I a W) : Sd I a (tell W x0 x1 x2 x3) := by
  obtain ⟨h1, h2, h3⟩ := h
  refine ⟨fun x hx => ?_, fun p hp => ?_, fun d hd k hk => ?_⟩
  · have g : ∀ y ∈ flds, y.2 < 11 ∧ y.2 ≠ 9 := by decide
    rw [tell_lo (Or.inl (by have := (g x hx).1; omega)) (g x hx).2]
    exact h1 x hx
  · rw [tell_lo (Or.inl (by omega)) (by omega), tell_lo (Or.inl (by omega)) (by omega)]
    exact h2 p hp
  · rw [tell_lo (Or.inl (by omega)) (by omega)]
    exact h3 d hd k hk
end T79zb
