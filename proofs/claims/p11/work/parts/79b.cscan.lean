section
/-! ===== the class's tokens: all at once, and one behind another ===== -/
section T79b
variable {S : aS} {I : Nat → Nat → Int32} {L : Nat → Nat → Int64} {w1 w2 t : Nat} {e n j b : Nat}
set_option maxRecDepth 100000
/-- all but the law's tokens is as it was -/
def Ft (I J : Nat → Nat → Int32) : Prop := ∀ q, ¬ (221 ≤ q ∧ q ≤ 225) → J q = I q
theorem Ft.rf : Ft I I := fun _ _ => rfl
theorem Ft.tr {J K : Nat → Nat → Int32} (h : Ft I J) (h2 : Ft J K) : Ft I K := fun q hq => (h2 q hq).trans (h q hq)
theorem Ft.up {J : Nat → Nat → Int32} {p k : Nat} {v : Int32} (h : Ft I J) (hp : 221 ≤ p ∧ p ≤ 225) : Ft I (up2 J p k v) := fun q hq => by
  rw [up2_row (by intro z; subst z; exact hq hp)]
  exact h q hq
/-- the things up to n, the last of them the end -/
def TkA (T : Nat → Int32) (e n : Nat) (I : Nat → Nat → Int32) : Prop := n ≤ 400 ∧ ¬ bg T e n < e ∧ I 221 4 = nI (n + 1) ∧ ∀ j, j ≤ n → I 222 j = nI (kd T e (bg T e j)) ∧ I 223 j = nI (bg T e j) ∧ I 225 j = vl T e (bg T e j)
def wrF (T : Nat → Int32) (e b : Nat) : Nat := if kd T e b = 1 ∧ wd T e b < 27 then 100 + wd T e b + 1 else 0
/-- what is at hand begins at b -/
def At (T : Nat → Int32) (e b w : Nat) (I : Nat → Nat → Int32) : Prop := (∃ n j, TkA T e n I ∧ j ≤ n ∧ I 221 5 = nI j ∧ b = bg T e j) ∧ I 221 6 = nI (kd T e b) ∧ I 221 7 = nI b ∧ I 221 8 = vl T e b ∧ w = wrF T e b
theorem At.ki {T : Nat → Int32} {w : Nat} (h : At T e b w I) : I 221 6 = nI (kd T e b) := h.2.1
theorem At.be {T : Nat → Int32} {w : Nat} (h : At T e b w I) : I 221 7 = nI b := h.2.2.1
theorem At.va {T : Nat → Int32} {w : Nat} (h : At T e b w I) : I 221 8 = vl T e b := h.2.2.2.1
theorem At.wo {T : Nat → Int32} {w : Nat} (h : At T e b w I) : w = wrF T e b := h.2.2.2.2
theorem At.le {T : Nat → Int32} {w : Nat} (h : At T e b w I) : b ≤ e := by
  obtain ⟨⟨n, j, -, -, -, rfl⟩, -⟩ := h
  exact bg_le j
theorem At.sk {T : Nat → Int32} {w : Nat} (h : At T e b w I) : rn T e 4 b = b := by
  obtain ⟨⟨n, j, -, -, -, rfl⟩, -⟩ := h
  exact bg_sk j
theorem At.eq {T : Nat → Int32} {w : Nat} {J : Nat → Nat → Int32} (h : At T e b w I) (f : ∀ q, 221 ≤ q → q ≤ 225 → J q = I q) : At T e b w J := by
  obtain ⟨⟨n, j, ⟨a1, a2, a3, a4⟩, h2, h3, h4⟩, h5, h6, h7, h8⟩ := h
  have e1 := f 221 (by decide) (by decide)
  refine ⟨⟨n, j, ⟨a1, a2, by rw [e1]; exact a3, fun i hi => ?_⟩, h2, by rw [e1]; exact h3, h4⟩, by rw [e1]; exact h5, by rw [e1]; exact h6, by rw [e1]; exact h7, h8⟩
  rw [f 222 (by decide) (by decide), f 223 (by decide) (by decide), f 225 (by decide) (by decide)]
  exact a4 i hi
theorem kd_4 {T : Nat → Int32} {k : Nat} (h : kd T e b = k) : k < 5 := by
  rw [← h]
  by_cases c : b < e
  · rw [kd_lt c]
    rcases kc_cases (T b) with z | z | z | z <;> omega
  · rw [kd_ge c]
    omega
theorem min_nI {a c : Nat} (ha : a < 2 ^ 31) (hc : c < 2 ^ 31) : (if nI c < nI a then nI c else nI a) = nI (if a ≤ c then a else c) := by
  by_cases h : a ≤ c
  · rw [if_pos h, if_neg (Int32.not_lt.mpr (nI_leu h hc))]
  · rw [if_neg h, if_pos (nI_ltu (by omega) ha)]
theorem vl_w {T : Nat → Int32} (h : kd T e b = 1) : (vl T e b < 0 ∧ ¬ wd T e b < 27) ∨ (¬ vl T e b < 0 ∧ wd T e b < 27 ∧ vl T e b = nI (wd T e b)) := by
  rw [vl_1 h]
  by_cases c : wd T e b < 27
  · rw [if_pos c]
    exact Or.inr ⟨nI_pos (by omega), c, rfl⟩
  · rw [if_neg c]
    exact Or.inl ⟨by decide, c⟩
/-- to the thing behind, or it stays at the end -/
theorem f_next {T : Nat → Int32} (hw : WdS S) {n i j : Nat} (hT : TkA T e n I) (h5 : I 221 5 + 1 = nI i) (hij : j = if i ≤ n then i else n) (hi : i ≤ 401) : Sp S m_X9_next 13 0 0 [.ref 221] (hp I L w1 w2 t) (fun v h' => v = none ∧ ∃ J w, h' = hp J L w1 w t ∧ At T e (bg T e j) w J ∧ ∀ q, q ≠ 221 → J q = I q) nX := by
  obtain ⟨a1, a2, a3, a4⟩ := id hT
  have hjn : j ≤ n := by
    rw [hij]
    by_cases c : i ≤ n
    · rw [if_pos c]
      exact c
    · rw [if_neg c]
      exact Nat.le_refl n
  obtain ⟨b1, b2, b3⟩ := a4 j hjn
  refine Sp_of ok_X9_next rfl rfl ?_
  show AW S m_X9_next 13 _ _ 0 0 0 [some (.ref 221)] [] (hp I L w1 w2 t)
  refine a_l0 rfl rfl rfl ?_
  refine a_l0 rfl rfl rfl ?_
  refine a_geti rfl gfX9_52_9 rfl ?_
  refine a_s rfl rfl ?_
  refine a_s rfl rfl ?_
  refine a_top (y := nI i) (h5) ?_
  refine a_l0 rfl rfl rfl ?_
  refine a_getiv (v := nI (n + 1)) rfl gfX9_24_9 rfl (a3) ?_
  refine a_s rfl rfl ?_
  refine a_s rfl rfl ?_
  refine a_top (y := nI n) (nI_dec n) ?_
  refine a_min rfl lX9_91 mj_min rfl rfl ?_
  refine a_top (y := nI j) ((min_nI (by omega) (by omega)).trans (congrArg nI hij.symm)) ?_
  refine a_puti rfl pfX9_52_9 rfl ?_
  refine a_l0 rfl rfl rfl ?_
  refine a_l0 rfl rfl rfl ?_
  refine a_getq rfl gfX9_9_9 rfl (rfl) ?_
  refine a_l0 rfl rfl rfl ?_
  refine a_getiv (v := nI j) rfl gfX9_52_9 rfl (up2_at) ?_
  refine a_eSN1 rfl lX9_58 mo_X11_at (sp_X11_at rfl) rfl rfl rfl rfl ?_
  refine a_top (y := nI (kd T e (bg T e j))) ((atF_nI (by omega) (by decide)).trans ((congrFun (up2_row (by decide)) j).trans b1)) ?_
  refine a_puti rfl pfX9_97_9 rfl ?_
  refine a_l0 rfl rfl rfl ?_
  refine a_l0 rfl rfl rfl ?_
  refine a_getq rfl gfX9_15_9 rfl (rfl) ?_
  refine a_l0 rfl rfl rfl ?_
  refine a_getiv (v := nI j) rfl gfX9_52_9 rfl ((up2_ne (Or.inr (by decide))).trans up2_at) ?_
  refine a_eSN1 rfl lX9_58 mo_X11_at (sp_X11_at rfl) rfl rfl rfl rfl ?_
  refine a_top (y := nI (bg T e j)) ((atF_nI (by omega) (by decide)).trans ((congrFun (up2_row (by decide)) j).trans ((congrFun (up2_row (by decide)) j).trans b2))) ?_
  refine a_puti rfl pfX9_100_9 rfl ?_
  refine a_l0 rfl rfl rfl ?_
  refine a_l0 rfl rfl rfl ?_
  refine a_getq rfl gfX9_21_9 rfl (rfl) ?_
  refine a_l0 rfl rfl rfl ?_
  refine a_getiv (v := nI j) rfl gfX9_52_9 rfl ((up2_ne (Or.inr (by decide))).trans ((up2_ne (Or.inr (by decide))).trans up2_at)) ?_
  refine a_eSN1 rfl lX9_58 mo_X11_at (sp_X11_at rfl) rfl rfl rfl rfl ?_
  refine a_top (y := vl T e (bg T e j)) ((atF_nI (by omega) (by decide)).trans ((congrFun (up2_row (by decide)) j).trans ((congrFun (up2_row (by decide)) j).trans ((congrFun (up2_row (by decide)) j).trans b3)))) ?_
  refine a_puti rfl pfX9_103_9 rfl ?_
  refine a_ren (P := fun J => (∀ q, q ≠ 221 → J q = I q) ∧ J 221 4 = nI (n + 1) ∧ J 221 5 = nI j ∧ J 221 6 = nI (kd T e (bg T e j)) ∧ J 221 7 = nI (bg T e j) ∧ J 221 8 = vl T e (bg T e j)) ⟨fun q hq => ?_, ?_, ?_, ?_, ?_, up2_at⟩ (fun J hJ => ?_)
  · rw [up2_row hq, up2_row hq, up2_row hq, up2_row hq]
  · exact (up2_ne (Or.inr (by decide))).trans ((up2_ne (Or.inr (by decide))).trans ((up2_ne (Or.inr (by decide))).trans ((up2_ne (Or.inr (by decide))).trans a3)))
  · exact (up2_ne (Or.inr (by decide))).trans ((up2_ne (Or.inr (by decide))).trans ((up2_ne (Or.inr (by decide))).trans up2_at))
  · exact (up2_ne (Or.inr (by decide))).trans ((up2_ne (Or.inr (by decide))).trans up2_at)
  · exact (up2_ne (Or.inr (by decide))).trans up2_at
  obtain ⟨f, g4, g5, g6, g7, g8⟩ := hJ
  have hTJ : TkA T e n J := ⟨a1, a2, g4, fun i hi => by
    rw [f 222 (by decide), f 223 (by decide), f 225 (by decide)]
    exact a4 i hi⟩
  have fin : ∀ q, q = wrF T e (bg T e j) → AW S m_X9_next 13 (fun v h' => v = none ∧ ∃ J w, h' = hp J L w1 w t ∧ At T e (bg T e j) w J ∧ ∀ q, q ≠ 221 → J q = I q) nX 0 0 103 [some (.ref 221)] [rv q, .ref 221] (hp J L w1 w2 t) := by
    intro q hq
    refine a_putw2 (q := q) rfl pfX9_106_9 ?_
    exact a_vret rfl rfl ⟨rfl, J, q, rfl, ⟨⟨n, j, hTJ, hjn, g5, rfl⟩, g6, g7, g8, hq⟩, f⟩
  refine a_l0 rfl rfl rfl ?_
  refine a_l0 rfl rfl rfl ?_
  refine a_getiv (v := nI (kd T e (bg T e j))) rfl gfX9_97_9 rfl (g6) ?_
  refine a_s rfl rfl ?_
  refine a_ic_ne rfl (fun c => ?_) (fun c => ?_)
  · refine a_s rfl rfl ?_
    exact fin 0 (if_neg (fun z => c (congrArg nI z.1))).symm
  have hk : kd T e (bg T e j) = 1 := nI_inj (a := kd T e (bg T e j)) (b := 1) (by have := kd_4 (T := T) (e := e) (b := bg T e j) rfl; omega) (by decide) c
  refine a_l0 rfl rfl rfl ?_
  refine a_getiv (v := vl T e (bg T e j)) rfl gfX9_103_9 rfl (g8) ?_
  rcases vl_w hk with ⟨v1, v2⟩ | ⟨v1, v2, v3⟩
  · refine a_if_lt rfl (fun _ => ?_) (fun c => absurd v1 c)
    refine a_s rfl rfl ?_
    exact fin 0 (if_neg (fun z => v2 z.2)).symm
  · refine a_if_lt rfl (fun c => absurd c v1) (fun _ => ?_)
    refine a_l0 rfl rfl rfl ?_
    refine a_getiv (v := nI (wd T e (bg T e j))) rfl gfX9_103_9 rfl (g8.trans v3) ?_
    refine a_gets rfl (inC4 (i := 0) rfl rfl) hw.al ?_
    refine a_lenc rfl hw.ar rfl ?_
    refine a_ic_ge rfl (fun c => absurd c (nI_ge (b := 27) v2 (by decide))) (fun _ => ?_)
    refine a_gets rfl (inC4 (i := 0) rfl rfl) hw.al ?_
    refine a_l0 rfl rfl rfl ?_
    refine a_getiv (v := nI (wd T e (bg T e j))) rfl gfX9_103_9 rfl (g8.trans v3) ?_
    refine a_aaldc rfl hw.ar rfl (inI_nI v2 (by decide)) ?_
    refine a_pop1 (st := [rv (100 + wd T e (bg T e j) + 1), .ref 221]) (by rw [nI_clamp (by omega)]; rfl) ?_
    refine a_goto rfl ?_
    exact fin _ (if_pos ⟨hk, v2⟩).symm
/-- so far: n things begun by i, the last of kind la (4, 3: none goes on) -/
def SI (T : Nat → Int32) (e n i la : Nat) (I : Nat → Nat → Int32) : Prop := n ≤ i ∧ i ≤ e ∧ I 221 4 = nI n ∧ (∀ j, j < n → bg T e j < e ∧ I 222 j = nI (kd T e (bg T e j)) ∧ I 223 j = nI (bg T e j)) ∧
  (((la = 4 ∨ la = 3) ∧ (∀ j, j < n → I 224 j = nI (en T e (bg T e j))) ∧ bg T e n = rn T e 4 i) ∨
   ∃ m, n = m + 1 ∧ (la = 1 ∨ la = 2) ∧ kd T e (bg T e m) = la ∧ (∀ j, j < m → I 224 j = nI (en T e (bg T e j))) ∧ I 224 m = nI i ∧ en T e (bg T e m) = rn T e la i)
/-- none goes on over a sign of another kind -/
theorem SI.cl {T : Nat → Int32} {i la : Nat} (h : SI T e n i la I) (hne : (la = 4 ∨ la = 3) ∨ ¬ isK T e la i = true) : (∀ j, j < n → I 224 j = nI (en T e (bg T e j))) ∧ bg T e n = rn T e 4 i := by
  obtain ⟨-, -, -, -, ⟨-, h2, h3⟩ | ⟨m, rfl, h2, h3, h4, h5, h6⟩⟩ := h
  · exact ⟨h2, h3⟩
  · have hne : ¬ isK T e la i = true := hne.resolve_left (by omega)
    have e1 : en T e (bg T e m) = i := h6.trans (rn_f (Bool.eq_false_iff.mpr hne))
    refine ⟨fun j hj => ?_, ?_⟩
    · by_cases c : j = m
      · rw [c, e1]
        exact h5
      · exact h4 j (by omega)
    · show rn T e 4 (en T e (bg T e m)) = _
      rw [e1]
theorem f_scan (hw : WdS S) (he : I 201 1 = nI e) (h4 : e ≤ 400) (hbt : BtT (I 202)) : Sp S m_X9_scan 19 0 0 [.ref 221, .ref 201] (hp I L w1 w2 t) (fun v h' => v = none ∧ ∃ J w, h' = hp J L w1 w t ∧ At (I 202) e (bg (I 202) e 0) w J ∧ Ft I J) nX := by
  refine Sp_of ok_X9_scan rfl rfl ?_
  show AW S m_X9_scan 19 _ _ 0 0 0 [some (.ref 221), some (.ref 201), none, none, none] [] (hp I L w1 w2 t)
  -- behind both loops
  have part2 : ∀ (n : Nat) (J : Nat → Nat → Int32), Ft I J → n ≤ e → J 221 4 = nI (n + 1) → ¬ bg (I 202) e n < e → (∀ j, j ≤ n → TkJ J e j (bg (I 202) e j)) → AW S m_X9_scan 19 (fun v h' => v = none ∧ ∃ J w, h' = hp J L w1 w t ∧ At (I 202) e (bg (I 202) e 0) w J ∧ Ft I J) nX 0 0 92 [some (.ref 221), some (.ref 201), none, none, none] [] (hp J L w1 w2 t) := by
    intro n J hF hne hs hend hall
    have hT2 : J 202 = I 202 := hF 202 (by omega)
    have he2 : J 201 1 = nI e := (congrFun (hF 201 (by omega)) 1).trans he
    refine a_s rfl rfl ?_
    refine a_s3 rfl rfl rfl rfl rfl rfl ?_
    refine a_inv (n := n + 1) (fun m ls h => ∃ q K, ls = [some (.ref 221), some (.ref 201), none, some (.int (nI q)), none] ∧ h = hp K L w1 w2 t ∧ q ≤ n + 1 ∧ m = n + 1 - q ∧ (∀ p, p ≠ 225 → K p = J p) ∧ ∀ j, j < q → K 225 j = vl (I 202) e (bg (I 202) e j)) ⟨0, J, rfl, rfl, Nat.zero_le _, rfl, fun _ _ => rfl, fun j hj => absurd hj (Nat.not_lt_zero _)⟩ ?_
    rintro m _ _ ⟨q, K, rfl, rfl, hq, hm, hK, hv5⟩ ih
    refine a_l3 rfl rfl rfl ?_
    refine a_l0 rfl rfl rfl ?_
    refine a_getiv (v := nI (n + 1)) rfl gfX9_24_9 rfl ((congrFun (hK 221 (by decide)) 4).trans hs) ?_
    refine a_ic_ge rfl (fun c => ?_) (fun c => ?_)
    · have hge := nI_ge_of c (by omega) (by omega)
      obtain rfl : q = n + 1 := by omega
      refine a_l0 rfl rfl rfl ?_
      refine a_s rfl rfl ?_
      refine a_puti rfl pfX9_52_9 rfl ?_
      refine a_l0 rfl rfl rfl ?_
      have hTA : TkA (I 202) e n (up2 K 221 5 (-1)) := by
        refine ⟨by omega, hend, (up2_ne (Or.inr (by decide))).trans ((congrFun (hK 221 (by decide)) 4).trans hs), fun j hj => ?_⟩
        obtain ⟨z1, z2, z3⟩ := hall j hj
        rw [hT2] at z1
        rw [up2_row (by decide), up2_row (by decide), up2_row (by decide), hK 222 (by decide), hK 223 (by decide)]
        exact ⟨z1, z2, hv5 j (by omega)⟩
      refine a_gV rfl lX9_55 mo_X9_next (f_next (i := 0) (j := 0) hw hTA (by rw [up2_at]; rfl) rfl (by omega)) rfl rfl rfl ⟨9, _, rfl, rfl, rfl⟩ rfl (fun v' h' hv => ?_)
      obtain ⟨rfl, J2, w, rfl, hA, hf⟩ := hv
      refine a_vret rfl rfl ⟨rfl, J2, w, rfl, hA, fun p hp => ?_⟩
      have p1 : p ≠ 221 := by omega
      have p2 : p ≠ 225 := by omega
      rw [hf p p1, up2_row p1, hK p p2]
      exact hF p hp
    · have hqn : q < n + 1 := nI_lt_of c (by omega) (by omega)
      refine a_l0 rfl rfl rfl ?_
      refine a_getq rfl gfX9_21_9 rfl (rfl) ?_
      refine a_l3 rfl rfl rfl ?_
      refine a_l0 rfl rfl rfl ?_
      refine a_l1 rfl rfl rfl ?_
      refine a_l3 rfl rfl rfl ?_
      have hKT : K 202 = I 202 := (hK 202 (by decide)).trans hT2
      have hTq : TkJ K e q (bg (I 202) e q) := by
        have := hall q (by omega)
        unfold TkJ at this ⊢
        rw [hK 222 (by decide), hK 223 (by decide), hK 224 (by decide), hK 202 (by decide)]
        exact this
      refine a_eV1 rfl lX9_48 mo_X9_valueOf (f_valueOf (b := bg (I 202) e q) hw ((congrFun (hK 201 (by decide)) 1).trans he2) h4 (by rw [hKT]; exact hbt) (by omega) (bg_le q) (by rw [hKT]; exact sk_kd (bg_sk q)) hTq) rfl rfl rfl ⟨9, _, rfl, rfl, rfl⟩ rfl ?_
      refine a_top (y := vl (I 202) e (bg (I 202) e q)) (by rw [hKT]) ?_
      refine a_eSN0 rfl lX9_44 mo_X11_setAt (sp_X11_setAt rfl) rfl rfl rfl rfl ?_
      rw [setF_nI (by omega) (by decide)]
      refine a_iv3 (y := nI (q + 1)) rfl rfl rfl ((nI_succ q).symm) ?_
      refine a_goto rfl ?_
      refine ih (n + 1 - (q + 1)) _ _ (by omega) ⟨q + 1, up2 K 225 q (vl (I 202) e (bg (I 202) e q)), rfl, rfl, by omega, rfl, fun p hp => (up2_row hp).trans (hK p hp), fun j hj => ?_⟩
      by_cases cj : j = q
      · rw [cj]
        exact up2_at
      · exact (up2_ne (Or.inr cj)).trans (hv5 j (by omega))
  refine a_l0 rfl rfl rfl ?_
  refine a_s rfl rfl ?_
  refine a_puti rfl pfX9_24_9 rfl ?_
  refine a_s rfl rfl ?_
  refine a_s2 rfl rfl rfl rfl rfl rfl ?_
  refine a_s rfl rfl ?_
  refine a_s3 rfl rfl rfl rfl rfl rfl ?_
  refine a_inv (n := e) (fun m ls h => ∃ n i la J, ls = [some (.ref 221), some (.ref 201), some (.int (nI la)), some (.int (nI i)), none] ∧ h = hp J L w1 w2 t ∧ m = e - i ∧ Ft I J ∧ SI (I 202) e n i la J) ⟨0, 0, 4, _, rfl, rfl, rfl, Ft.up Ft.rf (by omega), Nat.le_refl _, Nat.zero_le _, up2_at, fun j hj => absurd hj (Nat.not_lt_zero _), Or.inl ⟨Or.inl rfl, fun j hj => absurd hj (Nat.not_lt_zero _), rfl⟩⟩ ?_
  rintro m _ _ ⟨n, i, la, J, rfl, rfl, hm, hF, hSI⟩ ih
  have hT2 : J 202 = I 202 := hF 202 (by omega)
  have he2 : J 201 1 = nI e := (congrFun (hF 201 (by omega)) 1).trans he
  obtain ⟨s1, s2, s3, s4, s5⟩ := id hSI
  have hla : la < 5 := by
    rcases s5 with ⟨z | z, -⟩ | ⟨_, -, z | z, -⟩ <;> omega
  refine a_l3 rfl rfl rfl ?_
  refine a_l1 rfl rfl rfl ?_
  refine a_getiv (v := nI e) rfl gfX9_28_7 rfl (he2) ?_
  refine a_ic_ge rfl (fun c => ?_) (fun c => ?_)
  · have hge := nI_ge_of c (by omega) (by omega)
    obtain rfl : i = e := by omega
    obtain ⟨k1, k2⟩ := SI.cl hSI (Or.inr fun z => absurd (isK_lt z) (Nat.lt_irrefl _))
    rw [rn_e (Nat.lt_irrefl _)] at k2
    refine a_l0 rfl rfl rfl ?_
    refine a_s rfl rfl ?_
    refine a_l1 rfl rfl rfl ?_
    refine a_getiv (v := nI i) rfl gfX9_28_7 rfl (he2) ?_
    refine a_eV0 rfl lX9_40 mo_X9_open (f_open s3 (by omega)) rfl rfl rfl ⟨9, _, rfl, rfl, rfl⟩ rfl ?_
    refine a_less (part2 n (opH J n 0 (nI i)) (Ft.up (Ft.up (Ft.up (Ft.up hF (by omega)) (by omega)) (by omega)) (by omega)) (by omega) up2_at (by rw [k2]; exact Nat.lt_irrefl _) (fun j hj => ?_)) ⟨rfl, rfl, trivial⟩
    have r2 : ∀ q, opH J n 0 (nI i) 222 q = up2 J 222 n 0 222 q := fun q => by
      unfold opH
      rw [up2_row (by decide), up2_row (by decide), up2_row (by decide)]
    have r3 : ∀ q, opH J n 0 (nI i) 223 q = up2 J 223 n (nI i) 223 q := fun q => by
      unfold opH
      rw [up2_row (by decide), up2_row (by decide)]
      by_cases cq : q = n
      · rw [cq, up2_at, up2_at]
      · rw [up2_ne (Or.inr cq), up2_ne (Or.inr cq), up2_ne (Or.inr cq)]
    have r4 : ∀ q, opH J n 0 (nI i) 224 q = up2 J 224 n (nI i) 224 q := fun q => by
      unfold opH
      rw [up2_row (by decide)]
      by_cases cq : q = n
      · rw [cq, up2_at, up2_at]
      · rw [up2_ne (Or.inr cq), up2_ne (Or.inr cq), up2_ne (Or.inr cq), up2_ne (Or.inr cq)]
    have r0 : opH J n 0 (nI i) 202 = I 202 := by
      unfold opH
      rw [up2_row (by decide), up2_row (by decide), up2_row (by decide), up2_row (by decide)]
      exact hT2
    unfold TkJ
    rw [r0, r2, r3, r4]
    by_cases cj : j = n
    · rw [cj, up2_at, up2_at, up2_at, k2, kd_ge (Nat.lt_irrefl _), en_0 (Nat.lt_irrefl _)]
      exact ⟨nI_0.symm, rfl, rfl⟩
    · obtain ⟨z1, z2, z3⟩ := s4 j (by omega)
      rw [up2_ne (Or.inr cj), up2_ne (Or.inr cj), up2_ne (Or.inr cj)]
      exact ⟨z2, z3, k1 j (by omega)⟩
  have hie : i < e := nI_lt_of c (by omega) (by omega)
  refine a_l1 rfl rfl rfl ?_
  refine a_l3 rfl rfl rfl ?_
  refine a_eV1 rfl lX9_33 mo_X7_byteAt (f_byteAt he2 h4 (by omega)) rfl rfl rfl ⟨7, _, rfl, rfl, rfl⟩ rfl ?_
  refine a_top (y := I 202 i &&& 255) ((if_pos hie).trans (by rw [hT2])) ?_
  refine a_eS1 rfl lX9_37 mo_X9_kindOf f_kindOf rfl rfl rfl rfl ?_
  obtain ⟨x, hx, ex⟩ := hbt i (by omega)
  refine a_top (y := nI (kcF (I 202 i))) (by rw [ex, bt_kc x hx]) ?_
  refine a_s4 rfl rfl rfl rfl rfl rfl ?_
  have hkc := kc_cases (I 202 i)
  generalize hk0 : kcF (I 202 i) = kc at hkc
  have isK_of : ∀ k, isK (I 202) e k i = true ↔ kc = k := fun k => ⟨fun z => hk0.symm.trans (isK_kc z), fun z => isK_t hie (hk0.trans z)⟩
  -- the loop goes on
  have on : ∀ (n' : Nat) (K : Nat → Nat → Int32), Ft I K → SI (I 202) e n' (i + 1) kc K → AW S m_X9_scan 19 (fun v h' => v = none ∧ ∃ J w, h' = hp J L w1 w t ∧ At (I 202) e (bg (I 202) e 0) w J ∧ Ft I J) nX 0 0 74 [some (.ref 221), some (.ref 201), some (.int (nI la)), some (.int (nI i)), some (.int (nI kc))] [] (hp K L w1 w2 t) := by
    intro n' K hFK hSK
    refine a_l4 rfl rfl rfl ?_
    refine a_s2 rfl rfl rfl rfl rfl rfl ?_
    refine a_iv3 (y := nI (i + 1)) rfl rfl rfl ((nI_succ i).symm) ?_
    refine a_goto rfl ?_
    have lt : e - (i + 1) < m := by rw [hm]; exact Nat.sub_lt_sub_left hie (Nat.lt_succ_self i)
    exact a_less (ih (e - (i + 1)) [some (.ref 221), some (.ref 201), some (.int (nI kc)), some (.int (nI (i + 1))), none] (hp K L w1 w2 t) lt ⟨n', i + 1, kc, K, rfl, rfl, rfl, hFK, hSK⟩) ⟨rfl, rfl, rfl, rfl, trivial⟩
  -- where the latest ends
  have k52 : ∀ (m : Nat) (K : Nat → Nat → Int32), kc ≠ 4 → m < 401 → K 221 4 = nI (m + 1) → Ft I K → SI (I 202) e (m + 1) (i + 1) kc (up2 K 224 m (nI (i + 1))) → AW S m_X9_scan 19 (fun v h' => v = none ∧ ∃ J w, h' = hp J L w1 w t ∧ At (I 202) e (bg (I 202) e 0) w J ∧ Ft I J) nX 0 0 52 [some (.ref 221), some (.ref 201), some (.int (nI la)), some (.int (nI i)), some (.int (nI kc))] [] (hp K L w1 w2 t) := by
    intro m K h4 hm4 hK4 hFK hSK
    refine a_l4 rfl rfl rfl ?_
    refine a_s rfl rfl ?_
    refine a_ic_eq rfl (fun c => absurd (nI_inj (b := 4) (by omega) (by decide) c) h4) (fun _ => ?_)
    refine a_l0 rfl rfl rfl ?_
    refine a_getq rfl gfX9_18_9 rfl (rfl) ?_
    refine a_l0 rfl rfl rfl ?_
    refine a_getiv (v := nI (m + 1)) rfl gfX9_24_9 rfl (hK4) ?_
    refine a_s rfl rfl ?_
    refine a_s rfl rfl ?_
    refine a_top (y := nI m) (nI_dec m) ?_
    refine a_l3 rfl rfl rfl ?_
    refine a_s rfl rfl ?_
    refine a_s rfl rfl ?_
    refine a_top (y := nI (i + 1)) ((nI_succ i).symm) ?_
    refine a_eSN0 rfl lX9_44 mo_X11_setAt (sp_X11_setAt rfl) rfl rfl rfl rfl ?_
    rw [setF_nI hm4 (by decide)]
    exact on _ _ (Ft.up hFK (by omega)) hSK
  -- a new one begins here
  have k45 : kc ≠ 4 → ((la = 4 ∨ la = 3) ∨ kc ≠ la) → AW S m_X9_scan 19 (fun v h' => v = none ∧ ∃ J w, h' = hp J L w1 w t ∧ At (I 202) e (bg (I 202) e 0) w J ∧ Ft I J) nX 0 0 45 [some (.ref 221), some (.ref 201), some (.int (nI la)), some (.int (nI i)), some (.int (nI kc))] [] (hp J L w1 w2 t) := by
    intro n4 hne
    obtain ⟨k1, k2⟩ := SI.cl hSI (hne.imp id fun z y => z ((isK_of la).mp y))
    have kb : bg (I 202) e n = i := k2.trans (rn_f (Bool.eq_false_iff.mpr fun z => n4 ((isK_of 4).mp z)))
    have kk : kd (I 202) e i = kc := (kd_lt hie).trans hk0
    refine a_l0 rfl rfl rfl ?_
    refine a_l4 rfl rfl rfl ?_
    refine a_l3 rfl rfl rfl ?_
    refine a_eV0 rfl lX9_40 mo_X9_open (f_open s3 (by omega)) rfl rfl rfl ⟨9, _, rfl, rfl, rfl⟩ rfl ?_
    refine k52 n _ n4 (by omega) up2_at (Ft.up (Ft.up (Ft.up (Ft.up hF (by omega)) (by omega)) (by omega)) (by omega)) ?_
    have r2 : ∀ q, up2 (opH J n (nI kc) (nI i)) 224 n (nI (i + 1)) 222 q = up2 J 222 n (nI kc) 222 q := fun q => by
      unfold opH
      rw [up2_row (by decide), up2_row (by decide), up2_row (by decide), up2_row (by decide)]
    have r3 : ∀ q, up2 (opH J n (nI kc) (nI i)) 224 n (nI (i + 1)) 223 q = up2 J 223 n (nI i) 223 q := fun q => by
      unfold opH
      rw [up2_row (by decide), up2_row (by decide), up2_row (by decide)]
      by_cases cq : q = n
      · rw [cq, up2_at, up2_at]
      · rw [up2_ne (Or.inr cq), up2_ne (Or.inr cq), up2_ne (Or.inr cq)]
    have r4 : ∀ q, q ≠ n → up2 (opH J n (nI kc) (nI i)) 224 n (nI (i + 1)) 224 q = J 224 q := fun q hq => by
      rw [up2_ne (Or.inr hq)]
      unfold opH
      rw [up2_row (by decide), up2_ne (Or.inr hq), up2_row (by decide), up2_row (by decide)]
    have s4' : ∀ j, j < n + 1 → bg (I 202) e j < e ∧ up2 (opH J n (nI kc) (nI i)) 224 n (nI (i + 1)) 222 j = nI (kd (I 202) e (bg (I 202) e j)) ∧ up2 (opH J n (nI kc) (nI i)) 224 n (nI (i + 1)) 223 j = nI (bg (I 202) e j) := fun j hj => by
      rw [r2, r3]
      by_cases cj : j = n
      · rw [cj, kb, kk, up2_at, up2_at]
        exact ⟨hie, rfl, rfl⟩
      · rw [up2_ne (Or.inr cj), up2_ne (Or.inr cj)]
        exact s4 j (by omega)
    refine ⟨by omega, hie, (congrFun (up2_row (by decide)) 4).trans up2_at, s4', ?_⟩
    by_cases c3 : kc = 3
    · refine Or.inl ⟨Or.inr c3, fun j hj => ?_, ?_⟩
      · by_cases cj : j = n
        · rw [cj, up2_at, kb, en_3 (kk.trans c3)]
        · rw [r4 j cj]
          exact k1 j (by omega)
      · show rn (I 202) e 4 (en (I 202) e (bg (I 202) e n)) = _
        rw [kb, en_3 (kk.trans c3)]
    · refine Or.inr ⟨n, rfl, by omega, by rw [kb, kk], fun j hj => ?_, up2_at, ?_⟩
      · rw [r4 j (by omega)]
        exact k1 j hj
      · rw [kb]
        rcases hkc with z | z | z | z
        · rw [en_1 (kk.trans z), z, rn_t ((isK_of 1).mpr z)]
        · rw [en_2 (kk.trans z), z, rn_t ((isK_of 2).mpr z)]
        · exact absurd z c3
        · exact absurd z n4
  refine a_l4 rfl rfl rfl ?_
  refine a_s rfl rfl ?_
  refine a_ic_eq rfl (fun c => ?_) (fun c3 => ?_)
  · have c := nI_inj (b := 3) (by omega) (by decide) c
    exact k45 (by omega) (by omega)
  have c3 : kc ≠ 3 := fun z => c3 (congrArg nI z)
  refine a_l4 rfl rfl rfl ?_
  refine a_s rfl rfl ?_
  refine a_ic_eq rfl (fun c => ?_) (fun c4 => ?_)
  · have c := nI_inj (b := 4) (by omega) (by decide) c
    obtain ⟨k1, k2⟩ := SI.cl hSI (by
      rcases s5 with ⟨z, -⟩ | ⟨_, -, z, -⟩
      · exact Or.inl z
      · exact Or.inr fun y => by have := (isK_of la).mp y; omega)
    refine a_l4 rfl rfl rfl ?_
    refine a_s rfl rfl ?_
    refine a_ic_eq rfl (fun _ => ?_) (fun z => absurd (congrArg nI c) z)
    exact on n J hF ⟨by omega, hie, s3, s4, Or.inl ⟨Or.inl c, k1, k2.trans (rn_t ((isK_of 4).mpr c))⟩⟩
  have c4 : kc ≠ 4 := fun z => c4 (congrArg nI z)
  refine a_l4 rfl rfl rfl ?_
  refine a_l2 rfl rfl rfl ?_
  refine a_ic_eq rfl (fun c => ?_) (fun cl => ?_)
  · have c := nI_inj (by omega) (by omega) c
    rcases s5 with ⟨z, -⟩ | ⟨m, rfl, h2, h3, h4', h5, h6⟩
    · exfalso
      omega
    · refine k52 m J c4 (by omega) s3 hF ⟨by omega, hie, (congrFun (up2_row (by decide)) 4).trans s3, fun j hj => ?_, Or.inr ⟨m, rfl, by omega, h3.trans c.symm, fun j hj => ?_, up2_at, ?_⟩⟩
      · rw [up2_row (by decide), up2_row (by decide)]
        exact s4 j hj
      · rw [up2_ne (Or.inr (by omega))]
        exact h4' j hj
      · rw [h6, c, rn_t ((isK_of la).mpr c)]
  · exact k45 c4 (Or.inr fun z => cl (congrArg nI z))
end T79b
end
section
/-! ===== the class's tokens: what is at hand, and taking it ===== -/
section T79c
variable {S : aS} {I : Nat → Nat → Int32} {L : Nat → Nat → Int64} {w1 w2 t : Nat} {e b : Nat} {T : Nat → Int32}
set_option maxRecDepth 100000
theorem wr_of (h1 : kd T e b = 1) (h2 : wd T e b < 27) : wrF T e b = 100 + wd T e b + 1 := if_pos ⟨h1, h2⟩
theorem wr_no (h : ¬ (kd T e b = 1 ∧ wd T e b < 27)) : wrF T e b = 0 := if_neg h
theorem wr_wk : WK (wrF T e b) := by
  by_cases c : kd T e b = 1 ∧ wd T e b < 27
  · rw [wr_of c.1 c.2]
    exact WK.con c.2
  · rw [wr_no c]
    exact WK.nul
theorem wr_is {k : Nat} (hk : k < 27) : wrF T e b = 100 + k + 1 ↔ isWd T e b k = true := by
  unfold isWd
  by_cases c : kd T e b = 1 ∧ wd T e b < 27
  · rw [wr_of c.1 c.2]
    exact ⟨fun z => decide_eq_true ⟨c.1, by omega⟩, fun z => by have := (of_decide_eq_true z).2; omega⟩
  · rw [wr_no c]
    exact ⟨fun z => by omega, fun z => absurd ⟨(of_decide_eq_true z).1, by have := (of_decide_eq_true z).2; omega⟩ c⟩
theorem At.wk {w : Nat} (h : At T e b w I) : WK w := by
  rw [At.wo h]
  exact wr_wk
theorem g_next (hw : WdS S) (h : At T e b w2 I) : Sp S m_X9_next 13 0 0 [.ref 221] (hp I L w1 w2 t) (fun v h' => v = none ∧ ∃ J w, h' = hp J L w1 w t ∧ At T e (nx T e b) w J ∧ ∀ q, q ≠ 221 → J q = I q) nX := by
  obtain ⟨⟨n, j, hT, hj, h5, rfl⟩, -⟩ := h
  have hn := hT.1
  by_cases c : j + 1 ≤ n
  · exact f_next (i := j + 1) (j := j + 1) hw hT (by rw [h5, ← nI_succ]) (if_pos c).symm (by omega)
  · obtain rfl : j = n := by omega
    have e1 : nx T e (bg T e j) = bg T e j := nx_e hT.2.1
    rw [e1]
    exact f_next (i := j + 1) (j := j) hw hT (by rw [h5, ← nI_succ]) (if_neg c).symm (by omega)
theorem f_isEnd (h : At T e b w2 I) : SpE S m_X9_isEnd 12 [.ref 221] (hp I L w1 w2 t) (some (.int (bI (decide (¬ b < e))))) (hp I L w1 w2 t) := by
  refine SpE_of ok_X9_isEnd rfl rfl ?_
  show AW S m_X9_isEnd 12 _ _ 0 0 0 [some (.ref 221)] [] (hp I L w1 w2 t)
  refine a_l0 rfl rfl rfl ?_
  refine a_getiv (v := nI (kd T e b)) rfl gfX9_97_9 rfl (At.ki h) ?_
  have k4 := kd_4 (T := T) (e := e) (b := b) rfl
  refine a_if_ne rfl (fun c => ?_) (fun c => ?_)
  · refine a_s rfl rfl ?_
    refine a_zret rfl rfl rfl ⟨?_, rfl⟩
    rw [show decide (¬ b < e) = false from decide_eq_false fun z => c (by rw [kd_ge z]; rfl)]
    rfl
  · refine a_s rfl rfl ?_
    refine a_goto rfl ?_
    refine a_zret rfl rfl rfl ⟨?_, rfl⟩
    rw [show decide (¬ b < e) = true from decide_eq_true (kd_0 ((nI_eq0 (by omega)).mp c))]
    rfl
theorem f_isSign (h : At T e b w2 I) {x : Int32} : SpE S m_X9_isSign 12 [.ref 221, .int x] (hp I L w1 w2 t) (some (.int (bI (sg T e b x)))) (hp I L w1 w2 t) := by
  refine SpE_of ok_X9_isSign rfl rfl ?_
  show AW S m_X9_isSign 12 _ _ 0 0 0 [some (.ref 221), some (.int x)] [] (hp I L w1 w2 t)
  have k4 := kd_4 (T := T) (e := e) (b := b) rfl
  refine a_l0 rfl rfl rfl ?_
  refine a_getiv (v := nI (kd T e b)) rfl gfX9_97_9 rfl (At.ki h) ?_
  refine a_s rfl rfl ?_
  refine a_ic_ne rfl (fun c => ?_) (fun c => ?_)
  · refine a_s rfl rfl ?_
    refine a_zret rfl rfl rfl ⟨?_, rfl⟩
    rw [show sg T e b x = false from decide_eq_false fun z => c (congrArg nI z.1)]
    rfl
  have c := nI_inj (b := 3) (by omega) (by decide) c
  refine a_l0 rfl rfl rfl ?_
  refine a_getiv (v := vl T e b) rfl gfX9_103_9 rfl (At.va h) ?_
  refine a_l1 rfl rfl rfl ?_
  refine a_ic_ne rfl (fun c2 => ?_) (fun c2 => ?_)
  · refine a_s rfl rfl ?_
    refine a_zret rfl rfl rfl ⟨?_, rfl⟩
    rw [show sg T e b x = false from decide_eq_false fun z => c2 z.2]
    rfl
  · refine a_s rfl rfl ?_
    refine a_goto rfl ?_
    refine a_zret rfl rfl rfl ⟨?_, rfl⟩
    rw [show sg T e b x = true from decide_eq_true ⟨c, c2⟩]
    rfl
/-- taken, if it is that: what is at hand then -/
def Tk (T : Nat → Int32) (e b : Nat) (z : Bool) (I : Nat → Nat → Int32) (L : Nat → Nat → Int64) (w1 t : Nat) : Option Value → aH → Prop := fun v h' => v = some (.int (bI z)) ∧ ∃ J w, h' = hp J L w1 w t ∧ At T e (if z = true then nx T e b else b) w J ∧ ∀ q, q ≠ 221 → J q = I q
theorem f_takeSign (hw : WdS S) (h : At T e b w2 I) {x : Int32} : Sp S m_X9_takeSign 14 0 0 [.ref 221, .int x] (hp I L w1 w2 t) (Tk T e b (sg T e b x) I L w1 t) nX := by
  refine Sp_of ok_X9_takeSign rfl rfl ?_
  show AW S m_X9_takeSign 14 _ _ 0 0 0 [some (.ref 221), some (.int x), none] [] (hp I L w1 w2 t)
  refine a_l0 rfl rfl rfl ?_
  refine a_l1 rfl rfl rfl ?_
  refine a_eV1 rfl lX9_110 mo_X9_isSign (f_isSign h) rfl rfl rfl ⟨9, _, rfl, rfl, rfl⟩ rfl ?_
  refine a_s2 rfl rfl rfl rfl rfl rfl ?_
  refine a_l2 rfl rfl rfl ?_
  cases c : sg T e b x with
  | false =>
    refine a_if_eq rfl (fun _ => ?_) (fun z => absurd rfl z)
    refine a_l2 rfl rfl rfl ?_
    exact a_zret rfl rfl rfl ⟨rfl, I, w2, rfl, h, fun _ _ => rfl⟩
  | true =>
    refine a_if_eq rfl (fun z => absurd z (by decide)) (fun _ => ?_)
    refine a_l0 rfl rfl rfl ?_
    refine a_gV rfl lX9_55 mo_X9_next (g_next hw h) rfl rfl rfl ⟨9, _, rfl, rfl, rfl⟩ rfl (fun v' h' hv => ?_)
    obtain ⟨rfl, J, w, rfl, hA, hf⟩ := hv
    refine a_l2 rfl rfl rfl ?_
    exact a_zret rfl rfl rfl ⟨rfl, J, w, rfl, hA, hf⟩
theorem f_takeWord (hw : WdS S) (h : At T e b w2 I) {k : Nat} (hk : k < 27) : Sp S m_X9_takeWord 14 0 0 [.ref 221, .ref (100 + k)] (hp I L w1 w2 t) (Tk T e b (isWd T e b k) I L w1 t) nX := by
  refine Sp_of ok_X9_takeWord rfl rfl ?_
  show AW S m_X9_takeWord 14 _ _ 0 0 0 [some (.ref 221), some (.ref (100 + k)), none] [] (hp I L w1 w2 t)
  refine a_l0 rfl rfl rfl ?_
  refine a_getr rfl gfX9_106_9 rfl ?_
  refine a_pop1 (show _ = rv w2 :: _ from rfl) ?_
  refine a_l1 rfl rfl rfl ?_
  refine a_acmp_ne (rx := w2) (ry := 100 + k + 1) rfl ((At.wk h).ac hw) (WK.ck hw hk) (fun c => ?_) (fun c => ?_)
  · have c3 : isWd T e b k = false := Bool.eq_false_iff.mpr fun z => c ((At.wo h).trans ((wr_is hk).mpr z))
    refine a_s rfl rfl ?_
    refine a_s2 rfl rfl rfl rfl rfl rfl ?_
    refine a_l2 rfl rfl rfl ?_
    refine a_if_eq rfl (fun _ => ?_) (fun z => absurd rfl z)
    refine a_l2 rfl rfl rfl ?_
    exact a_zret rfl rfl rfl ⟨by rw [c3]; rfl, I, w2, rfl, by rw [c3]; exact h, fun _ _ => rfl⟩
  · have c3 : isWd T e b k = true := (wr_is hk).mp ((At.wo h).symm.trans c)
    refine a_s rfl rfl ?_
    refine a_goto rfl ?_
    refine a_s2 rfl rfl rfl rfl rfl rfl ?_
    refine a_l2 rfl rfl rfl ?_
    refine a_if_eq rfl (fun z => absurd z (by decide)) (fun _ => ?_)
    refine a_l0 rfl rfl rfl ?_
    refine a_gV rfl lX9_55 mo_X9_next (g_next hw h) rfl rfl rfl ⟨9, _, rfl, rfl, rfl⟩ rfl (fun v' h' hv => ?_)
    obtain ⟨rfl, J, w, rfl, hA, hf⟩ := hv
    refine a_l2 rfl rfl rfl ?_
    exact a_zret rfl rfl rfl ⟨by rw [c3]; rfl, J, w, rfl, by rw [c3]; exact hA, hf⟩
theorem f_takeNumber (hw : WdS S) (h : At T e b w2 I) {lo hi : Int32} (h0 : 0 ≤ lo) : Sp S m_X9_takeNumber 14 0 0 [.ref 221, .int lo, .int hi] (hp I L w1 w2 t) (fun v h' => v = some (.int (nm T e b lo hi)) ∧ ∃ J w, h' = hp J L w1 w t ∧ At T e (if nm T e b lo hi = -1 then b else nx T e b) w J ∧ ∀ q, q ≠ 221 → J q = I q) nX := by
  refine Sp_of ok_X9_takeNumber rfl rfl ?_
  show AW S m_X9_takeNumber 14 _ _ 0 0 0 [some (.ref 221), some (.int lo), some (.int hi), none] [] (hp I L w1 w2 t)
  have k4 := kd_4 (T := T) (e := e) (b := b) rfl
  have no : nm T e b lo hi = -1 → AW S m_X9_takeNumber 14 (fun v h' => v = some (.int (nm T e b lo hi)) ∧ ∃ J w, h' = hp J L w1 w t ∧ At T e (if nm T e b lo hi = -1 then b else nx T e b) w J ∧ ∀ q, q ≠ 221 → J q = I q) nX 0 0 23 [some (.ref 221), some (.int lo), some (.int hi), some (.int (vl T e b))] [] (hp I L w1 w2 t) := by
    intro hn
    refine a_s rfl rfl ?_
    exact a_iret rfl rfl ⟨by rw [hn], I, w2, rfl, by rw [if_pos hn]; exact h, fun _ _ => rfl⟩
  refine a_l0 rfl rfl rfl ?_
  refine a_getiv (v := vl T e b) rfl gfX9_103_9 rfl (At.va h) ?_
  refine a_s3 rfl rfl rfl rfl rfl rfl ?_
  refine a_l0 rfl rfl rfl ?_
  refine a_getiv (v := nI (kd T e b)) rfl gfX9_97_9 rfl (At.ki h) ?_
  refine a_s rfl rfl ?_
  refine a_ic_ne rfl (fun c => no (if_neg fun z => c (congrArg nI z.1))) (fun c => ?_)
  have c := nI_inj (b := 2) (by omega) (by decide) c
  refine a_l3 rfl rfl rfl ?_
  refine a_l1 rfl rfl rfl ?_
  refine a_ic_lt rfl (fun c2 => no (if_neg fun z => absurd c2 (Int32.not_lt.mpr z.2.1))) (fun c2 => ?_)
  refine a_l3 rfl rfl rfl ?_
  refine a_l2 rfl rfl rfl ?_
  refine a_ic_le rfl (fun c3 => ?_) (fun c3 => no (if_neg fun z => c3 z.2.2))
  have c2 := Int32.not_lt.mp c2
  have hn : nm T e b lo hi = vl T e b := if_pos ⟨c, c2, c3⟩
  have hne : ¬ nm T e b lo hi = -1 := fun z => by
    rw [hn] at z
    rw [z] at c2
    exact absurd (Int32.le_trans h0 c2) (by decide)
  refine a_l0 rfl rfl rfl ?_
  refine a_gV rfl lX9_55 mo_X9_next (g_next hw h) rfl rfl rfl ⟨9, _, rfl, rfl, rfl⟩ rfl (fun v' h' hv => ?_)
  obtain ⟨rfl, J, w, rfl, hA, hf⟩ := hv
  refine a_l3 rfl rfl rfl ?_
  exact a_iret rfl rfl ⟨by rw [hn], J, w, rfl, by rw [if_neg hne]; exact hA, hf⟩
end T79c
end
section
/-! ===== the class's reader of conditions ===== -/
section T79d
variable {S : aS} {I : Nat → Nat → Int32} {L : Nat → Nat → Int64} {w1 w2 t : Nat} {e b : Nat} {T : Nat → Int32} {st o : List Int32} {d : Int32} {R : PR}
set_option maxRecDepth 100000
/-- a row's head, the latest first -/
def RowL (f : Nat → Int32) : List Int32 → Prop
  | [] => True
  | x :: r => f r.length = x ∧ RowL f r
theorem RowL.up {J : Nat → Nat → Int32} {p k : Nat} {v : Int32} : ∀ {r : List Int32}, RowL (J p) r → r.length ≤ k → RowL (up2 J p k v p) r := by
  intro r
  induction r with
  | nil => exact fun _ _ => trivial
  | cons x r ih =>
    intro h hk
    have hk : r.length + 1 ≤ k := hk
    exact ⟨(up2_ne (Or.inr (by omega))).trans h.1, ih h.2 (by omega)⟩
theorem RowL.ad {J : Nat → Nat → Int32} {p : Nat} {v : Int32} {r : List Int32} (h : RowL (J p) r) : RowL (up2 J p r.length v p) (v :: r) := ⟨up2_at, RowL.up h (Nat.le_refl _)⟩
/-- what a condition may change -/
def sC (q k : Nat) : Bool := Nat.beq q 221 || (Nat.beq q 234 || (Nat.beq q 231 || ((Nat.beq q 220 && (Nat.beq k 4 || Nat.beq k 5)) || (Nat.beq q 226 && Nat.beq k 1))))
theorem sC_of {q k : Nat} (h : sC q k = false) : q ≠ 221 := fun z => by
  subst z
  cases h
theorem sC_tok : ∀ q, 222 ≤ q → q ≤ 225 → ∀ k, sC q k = false := by
  intro q h1 h2 k
  have e1 : Nat.beq q 221 = false := beqF (by omega)
  have e2 : Nat.beq q 234 = false := beqF (by omega)
  have e3 : Nat.beq q 231 = false := beqF (by omega)
  have e4 : Nat.beq q 220 = false := beqF (by omega)
  have e5 : Nat.beq q 226 = false := beqF (by omega)
  simp [sC, e1, e2, e3, e4, e5]
theorem Fm.nx {J J' : Nat → Nat → Int32} (h : Fm sC I J) (f : ∀ q, q ≠ 221 → J' q = J q) : Fm sC I J' := fun q k hq => by
  rw [f q (sC_of hq)]
  exact h q k hq
/-- the reader: what is at hand, what waits, how deep, what was emitted -/
def Lr (T : Nat → Int32) (e b w : Nat) (st : List Int32) (d : Int32) (o : List Int32) (J : Nat → Nat → Int32) : Prop := At T e b w J ∧ (J 220 4 = nI st.length ∧ J 220 5 = d ∧ RowL (J 234) st) ∧ (J 226 1 = nI o.length ∧ RowL (J 231) o) ∧ e ≤ 400
theorem Lr.at {w : Nat} {J : Nat → Nat → Int32} (h : Lr T e b w st d o J) : At T e b w J := h.1
theorem Lr.hd {w : Nat} {J : Nat → Nat → Int32} (h : Lr T e b w st d o J) : J 220 4 = nI st.length := h.2.1.1
theorem Lr.de {w : Nat} {J : Nat → Nat → Int32} (h : Lr T e b w st d o J) : J 220 5 = d := h.2.1.2.1
theorem Lr.ro {w : Nat} {J : Nat → Nat → Int32} (h : Lr T e b w st d o J) : RowL (J 234) st := h.2.1.2.2
theorem Lr.cl {w : Nat} {J : Nat → Nat → Int32} (h : Lr T e b w st d o J) : J 226 1 = nI o.length := h.2.2.1.1
theorem Lr.co {w : Nat} {J : Nat → Nat → Int32} (h : Lr T e b w st d o J) : RowL (J 231) o := h.2.2.1.2
theorem Lr.e4 {w : Nat} {J : Nat → Nat → Int32} (h : Lr T e b w st d o J) : e ≤ 400 := h.2.2.2
theorem Lr.be {w : Nat} {J : Nat → Nat → Int32} (h : Lr T e b w st d o J) : b ≤ 400 := Nat.le_trans (At.le (Lr.at h)) (Lr.e4 h)
theorem Lr.mv {w b2 w' : Nat} {J J' : Nat → Nat → Int32} (h : Lr T e b w st d o J) (hA : At T e b2 w' J') (f : ∀ q, q ≠ 221 → J' q = J q) : Lr T e b2 w' st d o J' := by
  obtain ⟨-, ⟨h1, h2, h3⟩, ⟨h4, h5⟩, h6⟩ := h
  refine ⟨hA, ⟨?_, ?_, ?_⟩, ⟨?_, ?_⟩, h6⟩
  · rw [f 220 (by decide)]; exact h1
  · rw [f 220 (by decide)]; exact h2
  · rw [f 234 (by decide)]; exact h3
  · rw [f 226 (by decide)]; exact h4
  · rw [f 231 (by decide)]; exact h5
theorem Lr.em {w : Nat} {J : Nat → Nat → Int32} {x : Int32} (h : Lr T e b w st d o J) : Lr T e b w st d (x :: o) (up2 (up2 J 231 o.length x) 226 1 (nI (o.length + 1))) := by
  obtain ⟨h0, ⟨h1, h2, h3⟩, ⟨h4, h5⟩, h6⟩ := h
  refine ⟨At.eq h0 (fun q g1 g2 => by rw [up2_row (by omega), up2_row (by omega)]), ⟨?_, ?_, ?_⟩, ⟨up2_at, ?_⟩, h6⟩
  · rw [up2_row (by decide), up2_row (by decide)]; exact h1
  · rw [up2_row (by decide), up2_row (by decide)]; exact h2
  · rw [up2_row (by decide), up2_row (by decide)]; exact h3
  · rw [up2_row (by decide)]; exact RowL.ad h5
theorem Lr.ho {w : Nat} {J : Nat → Nat → Int32} {x : Int32} (h : Lr T e b w st d o J) : Lr T e b w (x :: st) d o (up2 (up2 J 234 st.length x) 220 4 (nI (st.length + 1))) := by
  obtain ⟨h0, ⟨h1, h2, h3⟩, ⟨h4, h5⟩, h6⟩ := h
  refine ⟨At.eq h0 (fun q g1 g2 => by rw [up2_row (by omega), up2_row (by omega)]), ⟨up2_at, ?_, ?_⟩, ⟨?_, ?_⟩, h6⟩
  · rw [up2_ne (Or.inr (by decide)), up2_row (by decide)]; exact h2
  · rw [up2_row (by decide)]; exact RowL.ad h3
  · rw [up2_row (by decide), up2_row (by decide)]; exact h4
  · rw [up2_row (by decide), up2_row (by decide)]; exact h5
theorem Lr.dp {w : Nat} {J : Nat → Nat → Int32} {d2 : Int32} (h : Lr T e b w st d o J) : Lr T e b w st d2 o (up2 J 220 5 d2) := by
  obtain ⟨h0, ⟨h1, h2, h3⟩, ⟨h4, h5⟩, h6⟩ := h
  refine ⟨At.eq h0 (fun q g1 g2 => by rw [up2_row (by omega)]), ⟨?_, up2_at, ?_⟩, ⟨?_, ?_⟩, h6⟩
  · rw [up2_ne (Or.inr (by decide))]; exact h1
  · rw [up2_row (by decide)]; exact h3
  · rw [up2_row (by decide)]; exact h4
  · rw [up2_row (by decide)]; exact h5
theorem Lr.po {w : Nat} {J : Nat → Nat → Int32} {x : Int32} (h : Lr T e b w (x :: st) d o J) : Lr T e b w st d o (up2 J 220 4 (nI st.length)) := by
  obtain ⟨h0, ⟨h1, h2, h3⟩, ⟨h4, h5⟩, h6⟩ := h
  refine ⟨At.eq h0 (fun q g1 g2 => by rw [up2_row (by omega)]), ⟨up2_at, ?_, ?_⟩, ⟨?_, ?_⟩, h6⟩
  · rw [up2_ne (Or.inr (by decide))]; exact h2
  · rw [up2_row (by decide)]; exact h3.2
  · rw [up2_row (by decide)]; exact h4
  · rw [up2_row (by decide)]; exact h5
theorem emitH_eq {n : Nat} {x : Int32} (h : I 226 1 = nI n) (hn : n < 400) : emitH I x = up2 (up2 I 231 n x) 226 1 (nI (n + 1)) := by
  unfold emitH
  rw [h, setF_nI hn (by decide), ← nI_succ]
theorem emitH_sC {x : Int32} : Fm sC I (emitH I x) := by
  unfold emitH
  exact Fm.up (Fm.st Fm.rf (fun _ => rfl)) rfl
theorem At.emH {w : Nat} {x : Int32} (h : At T e b w I) : At T e b w (emitH I x) := At.eq h (fun q g1 g2 => by
  unfold emitH
  rw [up2_row (by omega), setF_row (by omega)])
theorem f_partAtHand (hw : WdS S) (h : At T e b w2 I) : SpE S m_X3_partAtHand 12 [.ref 220] (hp I L w1 w2 t) (some (.int (prt T e b))) (hp I L w1 w2 t) := by
  refine SpE_of ok_X3_partAtHand rfl rfl ?_
  show AW S m_X3_partAtHand 12 _ _ 0 0 0 [some (.ref 220), none] [] (hp I L w1 w2 t)
  have k4 := kd_4 (T := T) (e := e) (b := b) rfl
  refine a_l0 rfl rfl rfl ?_
  refine a_getq rfl gfX3_28_3 rfl (rfl) ?_
  refine a_getiv (v := nI (kd T e b)) rfl gfX3_138_9 rfl (At.ki h) ?_
  refine a_s rfl rfl ?_
  refine a_ic_ne rfl (fun c => ?_) (fun c => ?_)
  · have c : kd T e b ≠ 2 := fun z => c (congrArg nI z)
    refine a_l0 rfl rfl rfl ?_
    refine a_getq rfl gfX3_28_3 rfl (rfl) ?_
    refine a_getr rfl gfX3_96_9 rfl ?_
    refine a_pop1 (show _ = rv w2 :: _ from rfl) ?_
    by_cases c1 : kd T e b = 1 ∧ wd T e b < 27
    · have e2 : w2 = 100 + wd T e b + 1 := (At.wo h).trans (wr_of c1.1 c1.2)
      subst e2
      refine a_s1 rfl rfl rfl rfl rfl rfl ?_
      refine a_l1 rfl rfl rfl ?_
      refine a_ifnonnull_t rfl ?_
      refine a_l1 rfl rfl rfl ?_
      refine a_getc rfl (inC10 (i := 53) rfl rfl) (hw.pa c1.2) ?_
      refine a_iret rfl rfl ⟨?_, rfl⟩
      unfold prt
      rw [if_neg c, if_pos c1.1]
    · have e2 : w2 = 0 := (At.wo h).trans (wr_no c1)
      subst e2
      refine a_s1 rfl rfl rfl rfl rfl rfl ?_
      refine a_l1 rfl rfl rfl ?_
      refine a_ifnonnull_f rfl ?_
      refine a_s rfl rfl ?_
      refine a_goto rfl ?_
      refine a_iret rfl rfl ⟨?_, rfl⟩
      unfold prt
      rw [if_neg c]
      by_cases c2 : kd T e b = 1
      · have := wd_le (T := T) (e := e) (b := b)
        have e3 : wd T e b = 27 := by
          have : ¬ wd T e b < 27 := fun z => c1 ⟨c2, z⟩
          omega
        rw [if_pos c2, e3]
        rfl
      · rw [if_neg c2]
  · have c := nI_inj (b := 2) (by omega) (by decide) c
    refine a_l0 rfl rfl rfl ?_
    refine a_getq rfl gfX3_28_3 rfl (rfl) ?_
    refine a_getiv (v := vl T e b) rfl gfX3_141_9 rfl (At.va h) ?_
    refine a_iret rfl rfl ⟨?_, rfl⟩
    unfold prt
    rw [if_pos c]
def jn (T : Nat → Int32) (e b : Nat) : Int32 := if isWd T e b 20 = true then 2004 else if isWd T e b 19 = true then 2005 else -1
theorem f_joinAtHand (hw : WdS S) (h : At T e b w2 I) : SpE S m_X3_joinAtHand 12 [.ref 220] (hp I L w1 w2 t) (some (.int (jn T e b))) (hp I L w1 w2 t) := by
  have kk2 := At.wk h
  have hi : ∀ k, k < 27 → (w2 = 100 + k + 1 ↔ isWd T e b k = true) := fun k hk => by
    rw [At.wo h]
    exact wr_is hk
  refine SpE_of ok_X3_joinAtHand rfl rfl ?_
  show AW S m_X3_joinAtHand 12 _ _ 0 0 0 [some (.ref 220)] [] (hp I L w1 w2 t)
  refine a_l0 rfl rfl rfl ?_
  refine a_getq rfl gfX3_28_3 rfl (rfl) ?_
  refine a_getr rfl gfX3_96_9 rfl ?_
  refine a_pop1 (show _ = rv w2 :: _ from rfl) ?_
  refine a_gets rfl (inC4 (i := 155) rfl rfl) (hw.st (i := 20) (by decide)) ?_
  refine a_acmp_ne (rx := w2) (ry := 100 + 20 + 1) rfl (kk2.ac hw) (WK.ck hw (i := 20) (by decide)) (fun c10 => ?_) (fun c10 => ?_)
  · have d1 : ¬ isWd T e b 20 = true := fun z => c10 ((hi 20 (by decide)).mpr z)
    refine a_l0 rfl rfl rfl ?_
    refine a_getq rfl gfX3_28_3 rfl (rfl) ?_
    refine a_getr rfl gfX3_96_9 rfl ?_
    refine a_pop1 (show _ = rv w2 :: _ from rfl) ?_
    refine a_gets rfl (inC4 (i := 157) rfl rfl) (hw.st (i := 19) (by decide)) ?_
    refine a_acmp_ne (rx := w2) (ry := 100 + 19 + 1) rfl (kk2.ac hw) (WK.ck hw (i := 19) (by decide)) (fun c27 => ?_) (fun c27 => ?_)
    · have d2 : ¬ isWd T e b 19 = true := fun z => c27 ((hi 19 (by decide)).mpr z)
      refine a_s rfl rfl ?_
      refine a_iret rfl rfl ⟨?_, rfl⟩
      unfold jn
      rw [if_neg d1, if_neg d2]
    · have d2 := (hi 19 (by decide)).mp c27
      refine a_s rfl rfl ?_
      refine a_goto rfl ?_
      refine a_iret rfl rfl ⟨?_, rfl⟩
      unfold jn
      rw [if_neg d1, if_pos d2]
  · have d1 := (hi 20 (by decide)).mp c10
    refine a_s rfl rfl ?_
    refine a_iret rfl rfl ⟨?_, rfl⟩
    unfold jn
    rw [if_pos d1]
theorem f_hold {n : Nat} (hs : I 220 4 = nI n) (hn : n < 32) {x : Int32} : SpE S m_X3_hold 13 [.ref 220, .int x] (hp I L w1 w2 t) none (hp (up2 (up2 I 234 n x) 220 4 (nI (n + 1))) L w1 w2 t) := by
  refine SpE_of ok_X3_hold rfl rfl ?_
  show AW S m_X3_hold 13 _ _ 0 0 0 [some (.ref 220), some (.int x)] [] (hp I L w1 w2 t)
  refine a_l0 rfl rfl rfl ?_
  refine a_getq rfl gfX3_20_3 rfl (rfl) ?_
  refine a_l0 rfl rfl rfl ?_
  refine a_getiv (v := nI n) rfl gfX3_68_3 rfl (hs) ?_
  refine a_l1 rfl rfl rfl ?_
  refine a_eSN0 rfl lX3_112 mo_X11_setAt (sp_X11_setAt rfl) rfl rfl rfl rfl ?_
  rw [setF_nI hn (by decide)]
  refine a_l0 rfl rfl rfl ?_
  refine a_s rfl rfl ?_
  refine a_getiv (v := nI n) rfl gfX3_68_3 rfl ((congrFun (up2_row (by decide)) 4).trans hs) ?_
  refine a_s rfl rfl ?_
  refine a_s rfl rfl ?_
  refine a_top (y := nI (n + 1)) ((nI_succ n).symm) ?_
  refine a_puti rfl pfX3_68_3 rfl ?_
  exact a_vret rfl rfl ⟨rfl, rfl⟩
theorem popF_len {op : Int32} : ∀ (st : List Int32) (d : Int32) (o : List Int32), (popF op st d o).1.length + (popF op st d o).2.2.length = st.length + o.length := by
  intro st
  induction st with
  | nil => exact fun d o => rfl
  | cons x r ih =>
    intro d o
    by_cases c : x ≤ op
    · rw [show popF op (x :: r) d o = popF op r (if x = 2003 then d - 1 else d) (x :: o) from if_pos c, ih]
      simp only [List.length_cons]
      omega
    · rw [show popF op (x :: r) d o = (x :: r, d, o) from if_neg c]
theorem brk_popF : ∀ (st : List Int32) (d : Int32) (o : List Int32), brk (popF 2005 st d o).1 = brk st := by
  intro st
  induction st with
  | nil => exact fun d o => rfl
  | cons x r ih =>
    intro d o
    by_cases c : x ≤ 2005
    · rw [show popF 2005 (x :: r) d o = popF 2005 r (if x = 2003 then d - 1 else d) (x :: o) from if_pos c, ih, brk_in c]
    · rw [show popF 2005 (x :: r) d o = (x :: r, d, o) from if_neg c]
theorem popF_hd : ∀ (st : List Int32) (d : Int32) (o : List Int32) (x : Int32) (r : List Int32), (popF 2005 st d o).1 = x :: r → ¬ x ≤ 2005 := by
  intro st
  induction st with
  | nil => exact fun d o x r z => by cases z
  | cons y s ih =>
    intro d o x r z
    by_cases c : y ≤ 2005
    · rw [show popF 2005 (y :: s) d o = popF 2005 s (if y = 2003 then d - 1 else d) (y :: o) from if_pos c] at z
      exact ih _ _ x r z
    · rw [show popF 2005 (y :: s) d o = (y :: s, d, o) from if_neg c] at z
      cases z
      exact c
theorem f_emitHeld (h : Lr T e b w2 st d o I) (hB : o.length + st.length ≤ b) (h32 : st.length ≤ 32) {op : Int32} : Sp S m_X3_emitHeld 14 0 0 [.ref 220, .int op] (hp I L w1 w2 t) (fun v h' => v = none ∧ ∃ J, h' = hp J L w1 w2 t ∧ Fm sC I J ∧ Lr T e b w2 (popF op st d o).1 (popF op st d o).2.1 (popF op st d o).2.2 J) nX := by
  have hb4 := Lr.be h
  refine Sp_of ok_X3_emitHeld rfl rfl ?_
  show AW S m_X3_emitHeld 14 _ _ 0 0 0 [some (.ref 220), some (.int op), none] [] (hp I L w1 w2 t)
  refine a_inv (n := st.length) (fun m ls h => ∃ s' d' o' J, ls = [some (.ref 220), some (.int op), none] ∧ h = hp J L w1 w2 t ∧ Lr T e b w2 s' d' o' J ∧ Fm sC I J ∧ popF op s' d' o' = popF op st d o ∧ m = s'.length ∧ o'.length + s'.length ≤ b ∧ s'.length ≤ 32) ⟨st, d, o, I, rfl, rfl, h, Fm.rf, rfl, rfl, hB, h32⟩ ?_
  rintro m _ _ ⟨s', d', o', J, rfl, rfl, hL, hF, hp', hm, hB', h32'⟩ ih
  refine a_l0 rfl rfl rfl ?_
  refine a_getiv (v := nI s'.length) rfl gfX3_68_3 rfl (Lr.hd hL) ?_
  cases s' with
  | nil =>
    refine a_if_le rfl (fun _ => ?_) (fun c => absurd (by decide) c)
    refine a_vret rfl rfl ⟨rfl, J, rfl, hF, ?_⟩
    rw [← hp']
    exact hL
  | cons x r =>
    have hr : o'.length + (r.length + 1) ≤ b := hB'
    have hr32 : r.length + 1 ≤ 32 := h32'
    refine a_if_le rfl (fun c => ?_) (fun _ => ?_)
    · exfalso
      have z := Int32.le_iff_toInt_le.mp c
      rw [show (x :: r).length = r.length + 1 from rfl, nI_toInt (by omega), show (0 : Int32).toInt = 0 from rfl] at z
      omega
    refine a_l0 rfl rfl rfl ?_
    refine a_getq rfl gfX3_20_3 rfl (rfl) ?_
    refine a_l0 rfl rfl rfl ?_
    refine a_getiv (v := nI (r.length + 1)) rfl gfX3_68_3 rfl (Lr.hd hL) ?_
    refine a_s rfl rfl ?_
    refine a_s rfl rfl ?_
    refine a_top (y := nI r.length) (nI_dec r.length) ?_
    refine a_eSN1 rfl lX3_116 mo_X11_at (sp_X11_at rfl) rfl rfl rfl rfl ?_
    refine a_top (y := x) ((atF_nI (by omega) (by decide)).trans (Lr.ro hL).1) ?_
    refine a_l1 rfl rfl rfl ?_
    refine a_ic_gt rfl (fun c => ?_) (fun c => ?_)
    · refine a_vret rfl rfl ⟨rfl, J, rfl, hF, ?_⟩
      rw [← hp', show popF op (x :: r) d' o' = (x :: r, d', o') from if_neg (Int32.not_le.mpr c)]
      exact hL
    have hxo := Int32.not_lt.mp c
    have ep : popF op r (if x = 2003 then d' - 1 else d') (x :: o') = popF op st d o := by
      rw [← hp']
      exact (if_pos hxo).symm
    refine a_l0 rfl rfl rfl ?_
    refine a_s rfl rfl ?_
    refine a_getiv (v := nI (r.length + 1)) rfl gfX3_68_3 rfl (Lr.hd hL) ?_
    refine a_s rfl rfl ?_
    refine a_s rfl rfl ?_
    refine a_top (y := nI r.length) (nI_dec r.length) ?_
    refine a_puti rfl pfX3_68_3 rfl ?_
    have hL1 := Lr.po hL
    have hF1 : Fm sC I (up2 J 220 4 (nI r.length)) := Fm.up hF rfl
    refine a_l0 rfl rfl rfl ?_
    refine a_getq rfl gfX3_20_3 rfl (rfl) ?_
    refine a_l0 rfl rfl rfl ?_
    refine a_getiv (v := nI r.length) rfl gfX3_68_3 rfl (Lr.hd hL1) ?_
    refine a_eSN1 rfl lX3_116 mo_X11_at (sp_X11_at rfl) rfl rfl rfl rfl ?_
    refine a_top (y := x) ((atF_nI (by omega) (by decide)).trans ((congrFun (up2_row (by decide)) r.length).trans (Lr.ro hL).1)) ?_
    refine a_s2 rfl rfl rfl rfl rfl rfl ?_
    refine a_l2 rfl rfl rfl ?_
    refine a_s rfl rfl ?_
    have k63 : ∀ (d2 : Int32) (K : Nat → Nat → Int32), Lr T e b w2 r d2 o' K → Fm sC I K → d2 = (if x = 2003 then d' - 1 else d') → AW S m_X3_emitHeld 14 (fun v h' => v = none ∧ ∃ J, h' = hp J L w1 w2 t ∧ Fm sC I J ∧ Lr T e b w2 (popF op st d o).1 (popF op st d o).2.1 (popF op st d o).2.2 J) nX 0 0 63 [some (.ref 220), some (.int op), some (.int x)] [] (hp K L w1 w2 t) := by
      intro d2 K hK hFK hd2
      refine a_l0 rfl rfl rfl ?_
      refine a_getq rfl gfX3_14_3 rfl (rfl) ?_
      refine a_l2 rfl rfl rfl ?_
      refine a_eV0 rfl lX3_120 mo_X2_emit q_X2_emit rfl rfl rfl ⟨2, _, rfl, rfl, rfl⟩ rfl ?_
      rw [emitH_eq (Lr.cl hK) (by omega)]
      refine a_goto rfl ?_
      refine a_less (ih r.length _ _ (by rw [hm]; exact Nat.lt_succ_self _) ⟨r, d2, x :: o', _, rfl, rfl, Lr.em hK, Fm.up (Fm.up hFK rfl) rfl, by rw [hd2]; exact ep, rfl, by simp only [List.length_cons]; omega, by omega⟩) ⟨rfl, rfl, trivial⟩
    refine a_ic_ne rfl (fun c3 => ?_) (fun c3 => ?_)
    · exact k63 d' _ hL1 hF1 (if_neg c3).symm
    · refine a_l0 rfl rfl rfl ?_
      refine a_s rfl rfl ?_
      refine a_getiv (v := d') rfl gfX3_72_3 rfl (Lr.de hL1) ?_
      refine a_s rfl rfl ?_
      refine a_s rfl rfl ?_
      refine a_puti rfl pfX3_72_3 rfl ?_
      exact k63 (d' - 1) _ (Lr.dp hL1) (Fm.up hF1 rfl) (if_pos c3).symm
theorem f_readSum (hw : WdS S) (h : Lr T e b w2 st d o I) (hB : o.length + st.length ≤ b) : Sp S m_X3_readSum 14 0 0 [.ref 220] (hp I L w1 w2 t) (fun v h' => v = some (.int (bI (sumP T e b o).1)) ∧ ∃ J w, h' = hp J L w1 w t ∧ Fm sC I J ∧ At T e (sumP T e b o).2.1 w J ∧ ((sumP T e b o).1 = true → Lr T e (sumP T e b o).2.1 w st d (sumP T e b o).2.2 J)) nX := by
  have hb4 := Lr.be h
  have hbe := At.le (Lr.at h)
  refine Sp_of ok_X3_readSum rfl rfl ?_
  show AW S m_X3_readSum 14 _ _ 0 0 0 [some (.ref 220), none, none] [] (hp I L w1 w2 t)
  refine a_l0 rfl rfl rfl ?_
  refine a_eV1 rfl lX3_135 mo_X3_partAtHand (f_partAtHand hw (Lr.at h)) rfl rfl rfl ⟨3, _, rfl, rfl, rfl⟩ rfl ?_
  refine a_s1 rfl rfl rfl rfl rfl rfl ?_
  refine a_l1 rfl rfl rfl ?_
  refine a_s rfl rfl ?_
  refine a_ic_ne rfl (fun c => ?_) (fun c => ?_)
  rotate_left
  · refine a_s rfl rfl ?_
    have e1 : sumP T e b o = (false, b, []) := if_pos c
    rw [e1]
    exact a_zret rfl rfl rfl ⟨rfl, I, w2, rfl, Fm.rf, Lr.at h, fun z => by cases z⟩
  have e1 : sumP T e b o = smL T e (nx T e b) (prt T e b :: o) := if_neg c
  have n1 := nx_lt (T := T) (prt_lt c)
  have n1e := nx_le (T := T) hbe
  refine a_l0 rfl rfl rfl ?_
  refine a_getq rfl gfX3_28_3 rfl (rfl) ?_
  refine a_gV rfl lX3_93 mo_X9_next (g_next hw (Lr.at h)) rfl rfl rfl ⟨9, _, rfl, rfl, rfl⟩ rfl (fun v' h' hv => ?_)
  obtain ⟨rfl, J1, wa, rfl, hA1, hf1⟩ := hv
  have h1 := Lr.mv h hA1 hf1
  have hF1 : Fm sC I J1 := Fm.nx Fm.rf hf1
  have he4 := Lr.e4 h
  refine a_l0 rfl rfl rfl ?_
  refine a_getq rfl gfX3_14_3 rfl (rfl) ?_
  refine a_l1 rfl rfl rfl ?_
  refine a_eV0 rfl lX3_120 mo_X2_emit q_X2_emit rfl rfl rfl ⟨2, _, rfl, rfl, rfl⟩ rfl ?_
  rw [emitH_eq (Lr.cl h1) (by omega)]
  refine a_s rfl rfl ?_
  refine a_s2 rfl rfl rfl rfl rfl rfl ?_
  refine a_inv (n := e - nx T e b) (fun m ls h => ∃ i b' w' o' x J, ls = [some (.ref 220), some (.int x), some (.int (nI i))] ∧ h = hp J L w1 w' t ∧ Lr T e b' w' st d o' J ∧ Fm sC I J ∧ smL T e b' o' = sumP T e b o ∧ o'.length + st.length ≤ b' ∧ i < b' ∧ m = e - b') ⟨0, nx T e b, wa, prt T e b :: o, prt T e b, _, rfl, rfl, Lr.em h1, Fm.up (Fm.up hF1 rfl) rfl, e1.symm, by simp only [List.length_cons]; omega, by omega, rfl⟩ ?_
  rintro m _ _ ⟨i, b', w', o', x, J, rfl, rfl, hL, hF, es, hB', hib, hm⟩ ih
  have hb' := At.le (Lr.at hL)
  refine a_l2 rfl rfl rfl ?_
  refine a_s rfl rfl ?_
  refine a_ic_ge rfl (fun c => absurd c (nI_ge (b := 400) (by omega) (by omega))) (fun _ => ?_)
  refine a_l0 rfl rfl rfl ?_
  refine a_getq rfl gfX3_28_3 rfl (rfl) ?_
  refine a_s rfl rfl ?_
  refine a_eV1 rfl lX3_108 mo_X9_isSign (f_isSign (Lr.at hL)) rfl rfl rfl ⟨9, _, rfl, rfl, rfl⟩ rfl ?_
  cases cs : sg T e b' 43 with
  | false =>
    refine a_if_eq rfl (fun _ => ?_) (fun z => absurd rfl z)
    refine a_s rfl rfl ?_
    rw [smL_f cs] at es
    rw [← es]
    exact a_zret rfl rfl rfl ⟨rfl, J, w', rfl, hF, Lr.at hL, fun _ => hL⟩
  | true =>
    refine a_if_eq rfl (fun z => absurd z (by decide)) (fun _ => ?_)
    have n2 := nx_lt (T := T) (sg_lt cs)
    have n2e := nx_le (T := T) hb'
    refine a_l0 rfl rfl rfl ?_
    refine a_getq rfl gfX3_28_3 rfl (rfl) ?_
    refine a_gV rfl lX3_93 mo_X9_next (g_next hw (Lr.at hL)) rfl rfl rfl ⟨9, _, rfl, rfl, rfl⟩ rfl (fun v' h' hv => ?_)
    obtain ⟨rfl, J2, wb, rfl, hA2, hf2⟩ := hv
    have h2 := Lr.mv hL hA2 hf2
    have hF2 : Fm sC I J2 := Fm.nx hF hf2
    refine a_l0 rfl rfl rfl ?_
    refine a_eV1 rfl lX3_135 mo_X3_partAtHand (f_partAtHand hw hA2) rfl rfl rfl ⟨3, _, rfl, rfl, rfl⟩ rfl ?_
    refine a_s1 rfl rfl rfl rfl rfl rfl ?_
    refine a_l1 rfl rfl rfl ?_
    refine a_s rfl rfl ?_
    refine a_ic_ne rfl (fun cp => ?_) (fun cp => ?_)
    rotate_left
    · refine a_s rfl rfl ?_
      rw [smL_n cs cp] at es
      rw [← es]
      exact a_zret rfl rfl rfl ⟨rfl, J2, wb, rfl, hF2, hA2, fun z => by cases z⟩
    have n3 := nx_lt (T := T) (prt_lt cp)
    have n3e := nx_le (T := T) n2e
    rw [smL_t cs cp] at es
    refine a_l0 rfl rfl rfl ?_
    refine a_getq rfl gfX3_28_3 rfl (rfl) ?_
    refine a_gV rfl lX3_93 mo_X9_next (g_next hw hA2) rfl rfl rfl ⟨9, _, rfl, rfl, rfl⟩ rfl (fun v' h' hv => ?_)
    obtain ⟨rfl, J3, wc, rfl, hA3, hf3⟩ := hv
    have h3 := Lr.mv h2 hA3 hf3
    have hF3 : Fm sC I J3 := Fm.nx hF2 hf3
    refine a_l0 rfl rfl rfl ?_
    refine a_getq rfl gfX3_14_3 rfl (rfl) ?_
    refine a_l1 rfl rfl rfl ?_
    refine a_eV0 rfl lX3_120 mo_X2_emit q_X2_emit rfl rfl rfl ⟨2, _, rfl, rfl, rfl⟩ rfl ?_
    rw [emitH_eq (Lr.cl h3) (by omega)]
    have h4 := Lr.em (x := prt T e (nx T e b')) h3
    refine a_l0 rfl rfl rfl ?_
    refine a_getq rfl gfX3_14_3 rfl (rfl) ?_
    refine a_s rfl rfl ?_
    refine a_eV0 rfl lX3_120 mo_X2_emit q_X2_emit rfl rfl rfl ⟨2, _, rfl, rfl, rfl⟩ rfl ?_
    rw [emitH_eq (Lr.cl h4) (by simp only [List.length_cons]; omega)]
    refine a_iv2 (y := nI (i + 1)) rfl rfl rfl ((nI_succ i).symm) ?_
    refine a_goto rfl ?_
    exact ih (e - nx T e (nx T e b')) _ _ (by omega) ⟨i + 1, _, wc, _, _, _, rfl, rfl, Lr.em h4, Fm.up (Fm.up (Fm.up (Fm.up hF3 rfl) rfl) rfl) rfl, es, by simp only [List.length_cons]; omega, by omega, rfl⟩
end T79d
end
section
/-! ===== the class's reader of conditions: atoms, deeper, back, all ===== -/
section T79e
variable {S : aS} {I : Nat → Nat → Int32} {L : Nat → Nat → Int64} {w1 w2 t : Nat} {e b : Nat} {T : Nat → Int32} {st o : List Int32} {d : Int32} {R : PR}
set_option maxRecDepth 100000
theorem cmpP_t {x : Int32} {b1 : Nat} {o1 : List Int32} (h : sumP T e b o = (true, b1, o1)) : cmpP T e x b o = (true, b1, x :: o1) := by
  unfold cmpP
  rw [h]
  rfl
theorem cmpP_f {x : Int32} {b1 : Nat} {o1 : List Int32} (h : sumP T e b o = (false, b1, o1)) : cmpP T e x b o = (false, b1, []) := by
  unfold cmpP
  rw [h]
  rfl
theorem baseP_s {z : Bool} {b1 : Nat} {o1 : List Int32} (h22 : isWd T e b 22 = false) (h23 : isWd T e b 23 = false) (hr : sumP T e b o = (z, b1, o1)) : baseP T e b o = if z = true then (if sg T e b1 60 = true then cmpP T e 2001 (nx T e b1) o1 else if sg T e b1 62 = true then cmpP T e 2002 (nx T e b1) o1 else (false, b1, [])) else (false, b1, []) := by
  unfold baseP
  rw [if_neg (by rw [h22]; decide), if_neg (by rw [h23]; decide), hr]
/-- behind an atom -/
def QAt (T : Nat → Int32) (e : Nat) (st : List Int32) (d : Int32) (r : PR) (I : Nat → Nat → Int32) (L : Nat → Nat → Int64) (w1 t : Nat) : Option Value → aH → Prop := fun v h' => v = some (.int (bI r.1)) ∧ ∃ J w, h' = hp J L w1 w t ∧ Fm sC I J ∧ At T e r.2.1 w J ∧ (r.1 = true → Lr T e r.2.1 w st d r.2.2 J)
theorem f_readAtom (hw : WdS S) (h : Lr T e b w2 st d o I) (hB : o.length + st.length ≤ b) : Sp S m_X3_readAtom 15 0 0 [.ref 220] (hp I L w1 w2 t) (QAt T e st d (baseP T e b o) I L w1 t) nX := by
  have hb4 := Lr.be h
  have hbe := At.le (Lr.at h)
  have he4 := Lr.e4 h
  refine Sp_of ok_X3_readAtom rfl rfl ?_
  show AW S m_X3_readAtom 15 _ _ 0 0 0 [some (.ref 220), none, none] [] (hp I L w1 w2 t)
  refine a_l0 rfl rfl rfl ?_
  refine a_getq rfl gfX3_28_3 rfl (rfl) ?_
  refine a_gets rfl (inC4 (i := 121) rfl rfl) (hw.st (i := 22) (by decide)) ?_
  refine a_gV rfl lX3_48 mo_X9_takeWord (f_takeWord (k := 22) hw (Lr.at h) (by decide)) rfl rfl rfl ⟨9, _, rfl, rfl, rfl⟩ rfl (fun v' h' hv => ?_)
  obtain ⟨rfl, J1, wa, rfl, hA1, hf1⟩ := hv
  have hF1 : Fm sC I J1 := Fm.nx Fm.rf hf1
  have h1 := Lr.mv h hA1 hf1
  cases cr : isWd T e b 22 with
  | true =>
    refine a_if_eq rfl (fun z => absurd z (by decide)) (fun _ => ?_)
    rw [cr, if_pos rfl] at hA1 h1
    have n1 := nx_lt (T := T) (isWd_lt cr)
    have n1e := nx_le (T := T) hbe
    refine a_l0 rfl rfl rfl ?_
    refine a_getq rfl gfX3_14_3 rfl (rfl) ?_
    refine a_s rfl rfl ?_
    refine a_eV0 rfl lX3_120 mo_X2_emit q_X2_emit rfl rfl rfl ⟨2, _, rfl, rfl, rfl⟩ rfl ?_
    rw [emitH_eq (Lr.cl h1) (by omega)]
    refine a_s rfl rfl ?_
    rw [show baseP T e b o = (true, nx T e b, 1007 :: o) from if_pos cr]
    have h2 := Lr.em (x := 1007) h1
    exact a_zret rfl rfl rfl ⟨rfl, _, wa, rfl, Fm.up (Fm.up hF1 rfl) rfl, Lr.at h2, fun _ => h2⟩
  | false =>
  refine a_if_eq rfl (fun _ => ?_) (fun z => absurd rfl z)
  rw [cr, if_neg (by decide)] at hA1 h1
  refine a_l0 rfl rfl rfl ?_
  refine a_getq rfl gfX3_28_3 rfl (rfl) ?_
  refine a_gets rfl (inC4 (i := 127) rfl rfl) (hw.st (i := 23) (by decide)) ?_
  refine a_gV rfl lX3_48 mo_X9_takeWord (f_takeWord (k := 23) hw hA1 (by decide)) rfl rfl rfl ⟨9, _, rfl, rfl, rfl⟩ rfl (fun v' h' hv => ?_)
  obtain ⟨rfl, J2, wb, rfl, hA2, hf2⟩ := hv
  have hF2 : Fm sC I J2 := Fm.nx hF1 hf2
  have h2 := Lr.mv h1 hA2 hf2
  cases co : isWd T e b 23 with
  | true =>
    refine a_if_eq rfl (fun z => absurd z (by decide)) (fun _ => ?_)
    rw [co, if_pos rfl] at hA2 h2
    have n1 := nx_lt (T := T) (isWd_lt co)
    have n1e := nx_le (T := T) hbe
    refine a_l0 rfl rfl rfl ?_
    refine a_getq rfl gfX3_14_3 rfl (rfl) ?_
    refine a_s rfl rfl ?_
    refine a_eV0 rfl lX3_120 mo_X2_emit q_X2_emit rfl rfl rfl ⟨2, _, rfl, rfl, rfl⟩ rfl ?_
    rw [emitH_eq (Lr.cl h2) (by omega)]
    refine a_s rfl rfl ?_
    rw [show baseP T e b o = (true, nx T e b, 1008 :: o) from (if_neg (by rw [cr]; decide)).trans (if_pos co)]
    have h3 := Lr.em (x := 1008) h2
    exact a_zret rfl rfl rfl ⟨rfl, _, wb, rfl, Fm.up (Fm.up hF2 rfl) rfl, Lr.at h3, fun _ => h3⟩
  | false =>
  refine a_if_eq rfl (fun _ => ?_) (fun z => absurd rfl z)
  rw [co, if_neg (by decide)] at hA2 h2
  refine a_l0 rfl rfl rfl ?_
  refine a_gV rfl lX3_129 mo_X3_readSum (f_readSum hw h2 hB) rfl rfl rfl ⟨3, _, rfl, rfl, rfl⟩ rfl (fun v' h' hv => ?_)
  obtain ⟨rfl, J3, wc, rfl, f3, hA3, hz3⟩ := hv
  have hF3 : Fm sC I J3 := Fm.tr hF2 f3
  have g0 := sumP_gd (T := T) (o := o) hbe
  rcases hr : sumP T e b o with ⟨z, b1, o1⟩
  rw [baseP_s cr co hr]
  rw [hr] at hA3 hz3 g0
  obtain ⟨g1, g2, g3⟩ := g0
  have g2 : b1 ≤ e := g2
  cases z with
  | false =>
    refine a_if_ne rfl (fun z => absurd rfl z) (fun _ => ?_)
    refine a_s rfl rfl ?_
    rw [if_neg (by decide)]
    exact a_zret rfl rfl rfl ⟨rfl, J3, wc, rfl, hF3, hA3, fun z => by cases z⟩
  | true =>
  have h3 : Lr T e b1 wc st d o1 J3 := hz3 rfl
  have g3 : b < b1 ∧ o1.length + b ≤ o.length + b1 := g3 rfl
  rw [if_pos rfl]
  refine a_if_ne rfl (fun _ => ?_) (fun z => absurd (show (1 : Int32) = 0 from z) (by decide))
  have k107 : ∀ (x : Int32) (wx : Nat) (J : Nat → Nat → Int32), Fm sC I J → Lr T e (nx T e b1) wx st d o1 J → b1 < nx T e b1 → AW S m_X3_readAtom 15 (QAt T e st d (cmpP T e x (nx T e b1) o1) I L w1 t) nX 0 0 107 [some (.ref 220), some (.int x), none] [] (hp J L w1 wx t) := by
    intro x wx J hF hL hlt
    have hLe := At.le (Lr.at hL)
    refine a_l0 rfl rfl rfl ?_
    refine a_gV rfl lX3_129 mo_X3_readSum (f_readSum hw hL (by omega)) rfl rfl rfl ⟨3, _, rfl, rfl, rfl⟩ rfl (fun v' h' hv => ?_)
    obtain ⟨rfl, J4, wy, rfl, f4, hA4, hz4⟩ := hv
    have hF4 : Fm sC I J4 := Fm.tr hF f4
    have q0 := sumP_gd (T := T) (o := o1) hLe
    rcases hr2 : sumP T e (nx T e b1) o1 with ⟨z2, b2, o2⟩
    rw [hr2] at hA4 hz4 q0
    obtain ⟨q1, q2, q3⟩ := q0
    have q2 : b2 ≤ e := q2
    refine a_s2 rfl rfl rfl rfl rfl rfl ?_
    refine a_l0 rfl rfl rfl ?_
    refine a_getq rfl gfX3_14_3 rfl (rfl) ?_
    refine a_l1 rfl rfl rfl ?_
    refine a_eV0 rfl lX3_120 mo_X2_emit q_X2_emit rfl rfl rfl ⟨2, _, rfl, rfl, rfl⟩ rfl ?_
    refine a_l2 rfl rfl rfl ?_
    cases z2 with
    | false =>
      rw [cmpP_f hr2]
      exact a_zret rfl rfl (bI_nar _) ⟨rfl, _, wy, rfl, Fm.tr hF4 emitH_sC, At.emH hA4, fun z => by cases z⟩
    | true =>
      have h4 : Lr T e b2 wy st d o2 J4 := hz4 rfl
      have q3 : nx T e b1 < b2 ∧ o2.length + nx T e b1 ≤ o1.length + b2 := q3 rfl
      rw [cmpP_t hr2, emitH_eq (Lr.cl h4) (by omega)]
      have h5 := Lr.em (x := x) h4
      exact a_zret rfl rfl (bI_nar _) ⟨rfl, _, wy, rfl, Fm.up (Fm.up hF4 rfl) rfl, Lr.at h5, fun _ => h5⟩
  refine a_l0 rfl rfl rfl ?_
  refine a_getq rfl gfX3_28_3 rfl (rfl) ?_
  refine a_s rfl rfl ?_
  refine a_eV1 rfl lX3_108 mo_X9_isSign (f_isSign (Lr.at h3)) rfl rfl rfl ⟨9, _, rfl, rfl, rfl⟩ rfl ?_
  have k81 : ∀ x : Int32, (x = if sg T e b1 60 = true then 2001 else 2002) → AW S m_X3_readAtom 15 (QAt T e st d (if sg T e b1 60 = true then cmpP T e 2001 (nx T e b1) o1 else if sg T e b1 62 = true then cmpP T e 2002 (nx T e b1) o1 else (false, b1, [])) I L w1 t) nX 0 0 81 [some (.ref 220), some (.int x), none] [] (hp J3 L w1 wc t) := by
    intro x hx
    refine a_l0 rfl rfl rfl ?_
    refine a_getq rfl gfX3_28_3 rfl (rfl) ?_
    refine a_s rfl rfl ?_
    refine a_gV rfl lX3_132 mo_X9_takeSign (f_takeSign hw (Lr.at h3)) rfl rfl rfl ⟨9, _, rfl, rfl, rfl⟩ rfl (fun v' h' hv => ?_)
    obtain ⟨rfl, J5, wd5, rfl, hA5, hf5⟩ := hv
    have hF5 : Fm sC I J5 := Fm.nx hF3 hf5
    have h5 := Lr.mv h3 hA5 hf5
    cases c60 : sg T e b1 60 with
    | true =>
      refine a_if_ne rfl (fun _ => ?_) (fun z => absurd z (by decide))
      rw [c60, if_pos rfl] at h5
      rw [c60, if_pos rfl] at hx
      rw [if_pos rfl, hx]
      exact k107 2001 wd5 J5 hF5 h5 (nx_lt (sg_lt c60))
    | false =>
      refine a_if_ne rfl (fun z => absurd rfl z) (fun _ => ?_)
      rw [c60, if_neg (by decide)] at h5
      rw [c60, if_neg (by decide)] at hx
      rw [if_neg (by decide), hx]
      refine a_l0 rfl rfl rfl ?_
      refine a_getq rfl gfX3_28_3 rfl (rfl) ?_
      refine a_s rfl rfl ?_
      refine a_gV rfl lX3_132 mo_X9_takeSign (f_takeSign hw (Lr.at h5)) rfl rfl rfl ⟨9, _, rfl, rfl, rfl⟩ rfl (fun v' h' hv => ?_)
      obtain ⟨rfl, J6, wd6, rfl, hA6, hf6⟩ := hv
      have hF6 : Fm sC I J6 := Fm.nx hF5 hf6
      have h6 := Lr.mv h5 hA6 hf6
      cases c62 : sg T e b1 62 with
      | true =>
        refine a_if_ne rfl (fun _ => ?_) (fun z => absurd z (by decide))
        rw [c62, if_pos rfl] at h6
        rw [if_pos rfl]
        exact k107 2002 wd6 J6 hF6 h6 (nx_lt (sg_lt c62))
      | false =>
        refine a_if_ne rfl (fun z => absurd rfl z) (fun _ => ?_)
        rw [c62, if_neg (by decide)] at h6
        rw [if_neg (by decide)]
        refine a_s rfl rfl ?_
        exact a_zret rfl rfl rfl ⟨rfl, J6, wd6, rfl, hF6, Lr.at h6, fun z => by cases z⟩
  cases c60 : sg T e b1 60 with
  | true =>
    refine a_if_eq rfl (fun z => absurd z (by decide)) (fun _ => ?_)
    refine a_s rfl rfl ?_
    refine a_goto rfl ?_
    refine a_s1 rfl rfl rfl rfl rfl rfl ?_
    rw [c60] at k81
    exact k81 2001 rfl
  | false =>
    refine a_if_eq rfl (fun _ => ?_) (fun z => absurd rfl z)
    refine a_s rfl rfl ?_
    refine a_s1 rfl rfl rfl rfl rfl rfl ?_
    rw [c60] at k81
    exact k81 2002 rfl
theorem Rn_A (h : Rn T e false b st d o R) : 0 ≤ d ∧ st.length < 32 ∧ (opn T e b = true → (6 ≤ d → R = (false, b, [])) ∧ (¬ 6 ≤ d → Rn T e false (nx T e b) ((if isWd T e b 21 = true then 2003 else 2006) :: st) (d + 1) o R)) ∧ (¬ opn T e b = true → ((baseP T e b o).1 = true → Rn T e true (baseP T e b o).2.1 st d (baseP T e b o).2.2 R) ∧ (¬ (baseP T e b o).1 = true → R = (false, (baseP T e b o).2.1, []))) := by
  obtain ⟨f, hf⟩ := h
  cases f with
  | zero => cases hf
  | succ f =>
    unfold run at hf
    by_cases c : 0 ≤ d ∧ st.length < 32
    · rw [if_pos c] at hf
      refine ⟨c.1, c.2, fun h1 => ?_, fun h1 => ?_⟩
      · rw [if_pos h1] at hf
        refine ⟨fun h6 => ?_, fun h6 => ?_⟩
        · rw [if_pos h6] at hf
          exact (Option.some.inj hf).symm
        · rw [if_neg h6] at hf
          exact ⟨f, hf⟩
      · rw [if_neg h1] at hf
        refine ⟨fun h6 => ?_, fun h6 => ?_⟩
        · rw [if_pos h6] at hf
          exact ⟨f, hf⟩
        · rw [if_neg h6] at hf
          exact (Option.some.inj hf).symm
    · rw [if_neg c] at hf
      cases hf
/-- where no ) is to be closed -/
def FinB (T : Nat → Int32) (e b : Nat) (st : List Int32) (d : Int32) (o : List Int32) (R : PR) : Prop := st.length ≤ 32 ∧ (isWd T e b 20 = true → Rn T e false (nx T e b) (2004 :: (popF 2004 st d o).1) (popF 2004 st d o).2.1 (popF 2004 st d o).2.2 R) ∧ (isWd T e b 20 = false → isWd T e b 19 = true → Rn T e false (nx T e b) (2005 :: (popF 2005 st d o).1) (popF 2005 st d o).2.1 (popF 2005 st d o).2.2 R) ∧ (isWd T e b 20 = false → isWd T e b 19 = false → R = ends b (popF 2005 st d o))
theorem Rn_B (h : Rn T e true b st d o R) : (brk st ≤ 6 ∧ st.length ≤ 32) ∧ (sg T e b 41 = true → ((popF 2005 st d o).1 = [] → R = (true, b, (popF 2005 st d o).2.2)) ∧ (∀ x r, (popF 2005 st d o).1 = x :: r → Rn T e true (nx T e b) r ((popF 2005 st d o).2.1 - 1) (popF 2005 st d o).2.2 R)) ∧ (sg T e b 41 = false → FinB T e b st d o R) := by
  obtain ⟨f, hf⟩ := h
  cases f with
  | zero => cases hf
  | succ f =>
    unfold run at hf
    by_cases c : brk st ≤ 6 ∧ st.length ≤ 32
    · rw [if_pos c] at hf
      refine ⟨c, fun h1 => ?_, fun h1 => ?_⟩
      · rw [if_pos h1] at hf
        refine ⟨fun h2 => ?_, fun x r h2 => ?_⟩
        · rw [h2] at hf
          exact (Option.some.inj hf).symm
        · rw [h2] at hf
          exact ⟨f, hf⟩
      · rw [if_neg (by rw [h1]; decide)] at hf
        refine ⟨c.2, fun h2 => ?_, fun h2 h3 => ?_, fun h2 h3 => ?_⟩
        · rw [if_pos h2] at hf
          exact ⟨f, hf⟩
        · rw [if_neg (by rw [h2]; decide), if_pos h3] at hf
          exact ⟨f, hf⟩
        · rw [if_neg (by rw [h2]; decide), if_neg (by rw [h3]; decide)] at hf
          exact (Option.some.inj hf).symm
    · rw [if_neg c] at hf
      cases hf
theorem i6 {d : Int32} (h0 : 0 ≤ d) (h6 : d < 6) : ∃ k, k < 6 ∧ d = nI k := by
  rw [Int32.le_iff_toInt_le, show (0 : Int32).toInt = 0 from rfl] at h0
  rw [Int32.lt_iff_toInt_lt, show (6 : Int32).toInt = 6 from rfl] at h6
  refine ⟨d.toInt.toNat, by omega, ?_⟩
  rw [← Int32.toInt_inj, nI_toInt (by omega)]
  omega
theorem f_openDeeper (hw : WdS S) (h : Lr T e b w2 st d o I) (hB : o.length + st.length ≤ b) (hR : Rn T e false b st d o R) : Sp S m_X3_openDeeper 14 0 0 [.ref 220] (hp I L w1 w2 t) (fun v h' => ∃ z b' w' st' d' J, v = some (.int (bI z)) ∧ h' = hp J L w1 w' t ∧ Fm sC I J ∧ Lr T e b' w' st' d' o J ∧ b ≤ b' ∧ o.length + st'.length ≤ b' ∧ (z = false → R = (false, b', [])) ∧ (z = true → ¬ opn T e b' = true ∧ Rn T e false b' st' d' o R)) nX := by
  refine Sp_of ok_X3_openDeeper rfl rfl ?_
  show AW S m_X3_openDeeper 14 _ _ 0 0 0 [some (.ref 220), none, none] [] (hp I L w1 w2 t)
  refine a_s rfl rfl ?_
  refine a_s1 rfl rfl rfl rfl rfl rfl ?_
  refine a_inv (n := 7) (fun m ls h => ∃ i b' w' st' d' J, ls = [some (.ref 220), some (.int (nI i)), none] ∧ h = hp J L w1 w' t ∧ Fm sC I J ∧ Lr T e b' w' st' d' o J ∧ b ≤ b' ∧ o.length + st'.length ≤ b' ∧ Rn T e false b' st' d' o R ∧ i ≤ 6 ∧ nI i ≤ d' ∧ m = 7 - i) ⟨0, b, w2, st, d, I, rfl, rfl, Fm.rf, h, Nat.le_refl _, hB, hR, by decide, (Rn_A hR).1, rfl⟩ ?_
  rintro m _ _ ⟨i, b', w', st', d', J, rfl, rfl, hF, hL, hbb, hB', hR', hi, hid, hm⟩ ih
  obtain ⟨r1, r2, r3, r4⟩ := Rn_A hR'
  have hb4 := Lr.be hL
  have hbe := At.le (Lr.at hL)
  have kk2 := At.wk (Lr.at hL)
  refine a_l1 rfl rfl rfl ?_
  refine a_s rfl rfl ?_
  refine a_ic_gt rfl (fun c => absurd c (Int32.not_lt.mpr (nI_leu (j := 6) hi (by decide)))) (fun _ => ?_)
  have k45 : ∀ zn : Bool, zn = isWd T e b' 21 → opn T e b' = true → AW S m_X3_openDeeper 14 (fun v h' => ∃ z b' w' st' d' J, v = some (.int (bI z)) ∧ h' = hp J L w1 w' t ∧ Fm sC I J ∧ Lr T e b' w' st' d' o J ∧ b ≤ b' ∧ o.length + st'.length ≤ b' ∧ (z = false → R = (false, b', [])) ∧ (z = true → ¬ opn T e b' = true ∧ Rn T e false b' st' d' o R)) nX 0 0 45 [some (.ref 220), some (.int (nI i)), some (.int (bI zn))] [] (hp J L w1 w' t) := by
    intro zn hzn ho
    refine a_l0 rfl rfl rfl ?_
    refine a_getiv (v := d') rfl gfX3_72_3 rfl (Lr.de hL) ?_
    refine a_s rfl rfl ?_
    refine a_ic_lt rfl (fun c6 => ?_) (fun c6 => ?_)
    rotate_left
    · refine a_s rfl rfl ?_
      exact a_zret rfl rfl rfl ⟨false, b', w', st', d', J, rfl, rfl, hF, hL, hbb, hB', fun _ => (r3 ho).1 (Int32.not_lt.mp c6), fun z => by cases z⟩
    have r5 := (r3 ho).2 (Int32.not_le.mpr c6)
    obtain ⟨k, hk, rfl⟩ := i6 r1 c6
    have hik := nI_ge_of hid (by omega) (by omega)
    have n1 : b' < nx T e b' := nx_lt (by
      unfold opn at ho
      rcases Bool.or_eq_true_iff.mp ho with z | z
      · exact isWd_lt z
      · exact sg_lt z)
    refine a_l0 rfl rfl rfl ?_
    refine a_s rfl rfl ?_
    refine a_getiv (v := nI k) rfl gfX3_72_3 rfl (Lr.de hL) ?_
    refine a_s rfl rfl ?_
    refine a_s rfl rfl ?_
    refine a_top (y := nI (k + 1)) ((nI_succ k).symm) ?_
    refine a_puti rfl pfX3_72_3 rfl ?_
    have hL1 := Lr.dp (d2 := nI (k + 1)) hL
    have hF1 : Fm sC I (up2 J 220 5 (nI (k + 1))) := Fm.up hF rfl
    have k80 : ∀ x : Int32, x = (if isWd T e b' 21 = true then 2003 else 2006) → AW S m_X3_openDeeper 14 (fun v h' => ∃ z b' w' st' d' J, v = some (.int (bI z)) ∧ h' = hp J L w1 w' t ∧ Fm sC I J ∧ Lr T e b' w' st' d' o J ∧ b ≤ b' ∧ o.length + st'.length ≤ b' ∧ (z = false → R = (false, b', [])) ∧ (z = true → ¬ opn T e b' = true ∧ Rn T e false b' st' d' o R)) nX 0 0 80 [some (.ref 220), some (.int (nI i)), some (.int (bI zn))] [.int x, .ref 220] (hp (up2 J 220 5 (nI (k + 1))) L w1 w' t) := by
      intro x hx
      refine a_eV0 rfl lX3_90 mo_X3_hold (f_hold (Lr.hd hL1) r2) rfl rfl rfl ⟨3, _, rfl, rfl, rfl⟩ rfl ?_
      have hL2 := Lr.ho (x := x) hL1
      refine a_l0 rfl rfl rfl ?_
      refine a_getq rfl gfX3_28_3 rfl (rfl) ?_
      refine a_gV rfl lX3_93 mo_X9_next (g_next hw (Lr.at hL2)) rfl rfl rfl ⟨9, _, rfl, rfl, rfl⟩ rfl (fun v' h' hv => ?_)
      obtain ⟨rfl, J3, w3, rfl, hA3, hf3⟩ := hv
      refine a_iv1 (y := nI (i + 1)) rfl rfl rfl ((nI_succ i).symm) ?_
      refine a_goto rfl ?_
      rw [← hx, ← nI_succ] at r5
      exact a_less (ih (7 - (i + 1)) _ _ (by omega) ⟨i + 1, nx T e b', w3, x :: st', nI (k + 1), J3, rfl, rfl, Fm.nx (Fm.up (Fm.up hF1 rfl) rfl) hf3, Lr.mv hL2 hA3 hf3, by omega, by simp only [List.length_cons]; omega, r5, by omega, nI_leu (by omega) (by omega), rfl⟩) ⟨rfl, rfl, trivial⟩
    refine a_l0 rfl rfl rfl ?_
    refine a_l2 rfl rfl rfl ?_
    cases zn with
    | false =>
      refine a_if_eq rfl (fun _ => ?_) (fun z => absurd rfl z)
      refine a_s rfl rfl ?_
      exact k80 2006 (by rw [← hzn]; rfl)
    | true =>
      refine a_if_eq rfl (fun z => absurd z (by decide)) (fun _ => ?_)
      refine a_s rfl rfl ?_
      refine a_goto rfl ?_
      exact k80 2003 (by rw [← hzn]; rfl)
  refine a_l0 rfl rfl rfl ?_
  refine a_getq rfl gfX3_28_3 rfl (rfl) ?_
  refine a_getr rfl gfX3_96_9 rfl ?_
  refine a_pop1 (show _ = rv w' :: _ from rfl) ?_
  refine a_gets rfl (inC4 (i := 105) rfl rfl) (hw.st (i := 21) (by decide)) ?_
  refine a_acmp_ne (rx := w') (ry := 100 + 21 + 1) rfl (kk2.ac hw) (WK.ck hw (i := 21) (by decide)) (fun c => ?_) (fun c => ?_)
  · have c1 : isWd T e b' 21 = false := Bool.eq_false_iff.mpr fun z => c ((At.wo (Lr.at hL)).trans ((wr_is (by decide)).mpr z))
    refine a_s rfl rfl ?_
    refine a_s2 rfl rfl rfl rfl rfl rfl ?_
    refine a_l2 rfl rfl rfl ?_
    refine a_if_ne rfl (fun z => absurd rfl z) (fun _ => ?_)
    refine a_l0 rfl rfl rfl ?_
    refine a_getq rfl gfX3_28_3 rfl (rfl) ?_
    refine a_s rfl rfl ?_
    refine a_eV1 rfl lX3_108 mo_X9_isSign (f_isSign (Lr.at hL)) rfl rfl rfl ⟨9, _, rfl, rfl, rfl⟩ rfl ?_
    cases c2 : sg T e b' 40 with
    | true =>
      refine a_if_ne rfl (fun _ => ?_) (fun z => absurd z (by decide))
      exact k45 false c1.symm (by unfold opn; rw [c2]; exact Bool.or_true _)
    | false =>
      refine a_if_ne rfl (fun z => absurd rfl z) (fun _ => ?_)
      refine a_s rfl rfl ?_
      exact a_zret rfl rfl rfl ⟨true, b', w', st', d', J, rfl, rfl, hF, hL, hbb, hB', fun z => (by cases z), fun _ => ⟨by unfold opn; rw [c1, c2]; decide, hR'⟩⟩
  · have c1 : isWd T e b' 21 = true := (wr_is (by decide)).mp ((At.wo (Lr.at hL)).symm.trans c)
    refine a_s rfl rfl ?_
    refine a_goto rfl ?_
    refine a_s2 rfl rfl rfl rfl rfl rfl ?_
    refine a_l2 rfl rfl rfl ?_
    refine a_if_ne rfl (fun _ => ?_) (fun z => absurd z (by decide))
    exact k45 true c1.symm (by unfold opn; rw [c1]; exact Bool.true_or _)
theorem popF_0 : ∀ (st : List Int32) (d : Int32) (o : List Int32), brk st = 0 → (popF 2005 st d o).1 = [] := by
  intro st
  induction st with
  | nil => exact fun _ _ _ => rfl
  | cons x r ih =>
    intro d o h
    by_cases c : x ≤ 2005
    · rw [show popF 2005 (x :: r) d o = popF 2005 r (if x = 2003 then d - 1 else d) (x :: o) from if_pos c]
      exact ih _ _ (by rw [brk_in c] at h; exact h)
    · rw [brk_out c] at h
      cases h
theorem ends_nil {p : List Int32 × Int32 × List Int32} (h : p.1 = []) : ends b p = (true, b, p.2.2) := by
  unfold ends
  rw [h]
theorem ends_cons {p : List Int32 × Int32 × List Int32} {x : Int32} {r : List Int32} (h : p.1 = x :: r) : ends b p = (false, b, []) := by
  unfold ends
  rw [h]
theorem f_closeDeeper (hw : WdS S) (h : Lr T e b w2 st d o I) (hB : o.length + st.length ≤ b) (hR : Rn T e true b st d o R) : Sp S m_X3_closeDeeper 15 0 0 [.ref 220] (hp I L w1 w2 t) (fun v h' => v = none ∧ ∃ b' w' st' d' o' J, h' = hp J L w1 w' t ∧ Fm sC I J ∧ Lr T e b' w' st' d' o' J ∧ b ≤ b' ∧ o'.length + st'.length ≤ b' ∧ FinB T e b' st' d' o' R) nX := by
  refine Sp_of ok_X3_closeDeeper rfl rfl ?_
  show AW S m_X3_closeDeeper 15 _ _ 0 0 0 [some (.ref 220), none] [] (hp I L w1 w2 t)
  refine a_s rfl rfl ?_
  refine a_s1 rfl rfl rfl rfl rfl rfl ?_
  refine a_inv (n := 6) (fun m ls h => ∃ i b' w' st' d' o' J, ls = [some (.ref 220), some (.int (nI i))] ∧ h = hp J L w1 w' t ∧ Fm sC I J ∧ Lr T e b' w' st' d' o' J ∧ b ≤ b' ∧ o'.length + st'.length ≤ b' ∧ Rn T e true b' st' d' o' R ∧ i + brk st' ≤ 6 ∧ m = 6 - i) ⟨0, b, w2, st, d, o, I, rfl, rfl, Fm.rf, h, Nat.le_refl _, hB, hR, by have := (Rn_B hR).1.1; omega, rfl⟩ ?_
  rintro m _ _ ⟨i, b', w', st', d', o', J, rfl, rfl, hF, hL, hbb, hB', hR', hi, hm⟩ ih
  obtain ⟨r1, r2, r3⟩ := Rn_B hR'
  have hb4 := Lr.be hL
  have hbe := At.le (Lr.at hL)
  -- none is left to be closed
  have fin0 : (popF 2005 st' d' o').1 = [] → sg T e b' 41 = true → R = (true, b', (popF 2005 st' d' o').2.2) := fun z1 z2 => (r2 z2).1 z1
  refine a_l1 rfl rfl rfl ?_
  refine a_s rfl rfl ?_
  refine a_ic_ge rfl (fun c => ?_) (fun c => ?_)
  · have h6 := nI_ge_of (b := 6) c (by omega) (by decide)
    refine a_vret rfl rfl ⟨rfl, b', w', st', d', o', J, rfl, hF, hL, hbb, hB', ?_⟩
    cases cs : sg T e b' 41 with
    | false => exact r3 cs
    | true =>
      have e0 := popF_0 st' d' o' (by omega)
      refine ⟨r1.2, fun z => ?_, fun _ z => ?_, fun _ _ => ?_⟩
      · rw [sg_wd cs] at z
        cases z
      · rw [sg_wd cs] at z
        cases z
      · rw [ends_nil e0]
        exact fin0 e0 cs
  have hi6 : i < 6 := nI_lt_of (b := 6) c (by omega) (by decide)
  refine a_l0 rfl rfl rfl ?_
  refine a_getq rfl gfX3_28_3 rfl (rfl) ?_
  refine a_s rfl rfl ?_
  refine a_eV1 rfl lX3_108 mo_X9_isSign (f_isSign (Lr.at hL)) rfl rfl rfl ⟨9, _, rfl, rfl, rfl⟩ rfl ?_
  cases cs : sg T e b' 41 with
  | false =>
    refine a_if_eq rfl (fun _ => ?_) (fun z => absurd rfl z)
    exact a_vret rfl rfl ⟨rfl, b', w', st', d', o', J, rfl, hF, hL, hbb, hB', r3 cs⟩
  | true =>
  refine a_if_eq rfl (fun z => absurd z (by decide)) (fun _ => ?_)
  have n1 := nx_lt (T := T) (sg_lt cs)
  refine a_l0 rfl rfl rfl ?_
  refine a_s rfl rfl ?_
  refine a_gV rfl lX3_87 mo_X3_emitHeld (f_emitHeld (op := 2005) hL hB' r1.2) rfl rfl rfl ⟨3, _, rfl, rfl, rfl⟩ rfl (fun v' h' hv => ?_)
  obtain ⟨rfl, K, rfl, fK, hK⟩ := hv
  have hFK : Fm sC I K := Fm.tr hF fK
  have hlen := popF_len (op := 2005) st' d' o'
  have hbrk := brk_popF st' d' o'
  have hhd := popF_hd st' d' o'
  have r2 := r2 cs
  clear fin0
  generalize popF 2005 st' d' o' = p at hK hlen hbrk hhd r2
  obtain ⟨ps, pd, po⟩ := p
  refine a_l0 rfl rfl rfl ?_
  refine a_getiv (v := nI ps.length) rfl gfX3_68_3 rfl (Lr.hd hK) ?_
  cases ps with
  | nil =>
    refine a_if_ne rfl (fun z => absurd rfl z) (fun _ => ?_)
    refine a_vret rfl rfl ⟨rfl, b', w', [], pd, po, K, rfl, hFK, hK, hbb, by have : 0 + po.length = st'.length + o'.length := hlen; show po.length + 0 ≤ b'; omega, Nat.zero_le _, fun z => ?_, fun _ z => ?_, fun _ _ => ?_⟩
    · rw [sg_wd cs] at z
      cases z
    · rw [sg_wd cs] at z
      cases z
    · exact r2.1 rfl
  | cons x r =>
    have hlen : r.length + 1 + po.length = st'.length + o'.length := hlen
    have hbrk : brk r + 1 = brk st' := (brk_out (hhd x r rfl)).symm.trans hbrk
    refine a_if_ne rfl (fun _ => ?_) (fun c => ?_)
    rotate_left
    · exfalso
      have := (nI_eq0 (a := r.length + 1) (by omega)).mp c
      omega
    refine a_l0 rfl rfl rfl ?_
    refine a_s rfl rfl ?_
    refine a_getiv (v := nI (r.length + 1)) rfl gfX3_68_3 rfl (Lr.hd hK) ?_
    refine a_s rfl rfl ?_
    refine a_s rfl rfl ?_
    refine a_top (y := nI r.length) (nI_dec r.length) ?_
    refine a_puti rfl pfX3_68_3 rfl ?_
    have hK1 := Lr.po hK
    refine a_l0 rfl rfl rfl ?_
    refine a_s rfl rfl ?_
    refine a_getiv (v := pd) rfl gfX3_72_3 rfl (Lr.de hK1) ?_
    refine a_s rfl rfl ?_
    refine a_s rfl rfl ?_
    refine a_puti rfl pfX3_72_3 rfl ?_
    have hK2 := Lr.dp (d2 := pd - 1) hK1
    refine a_l0 rfl rfl rfl ?_
    refine a_getq rfl gfX3_28_3 rfl (rfl) ?_
    refine a_gV rfl lX3_93 mo_X9_next (g_next hw (Lr.at hK2)) rfl rfl rfl ⟨9, _, rfl, rfl, rfl⟩ rfl (fun v' h' hv => ?_)
    obtain ⟨rfl, J3, w3, rfl, hA3, hf3⟩ := hv
    refine a_iv1 (y := nI (i + 1)) rfl rfl rfl ((nI_succ i).symm) ?_
    refine a_goto rfl ?_
    exact ih (6 - (i + 1)) _ _ (by omega) ⟨i + 1, nx T e b', w3, r, pd - 1, po, J3, rfl, rfl, Fm.nx (Fm.up (Fm.up hFK rfl) rfl) hf3, Lr.mv hK2 hA3 hf3, by omega, by omega, r2.2 x r rfl, by omega, rfl⟩
theorem f_readCondition (hw : WdS S) (hA : At T e b w2 I) (hc1 : I 226 1 = nI o.length) (hc2 : RowL (I 231) o) (hB : o.length ≤ b) (h0 : 0 < b) (he : e ≤ 400) : Sp S m_X3_readCondition 16 0 0 [.ref 220] (hp I L w1 w2 t) (fun v h' => v = some (.int (bI (condR T e 6 b o).1)) ∧ ∃ J w, h' = hp J L w1 w t ∧ Fm sC I J ∧ At T e (condR T e 6 b o).2.1 w J ∧ ((condR T e 6 b o).1 = true → J 226 1 = nI (condR T e 6 b o).2.2.length ∧ RowL (J 231) (condR T e 6 b o).2.2)) nX := by
  obtain ⟨z, b1, o1, ec, ef, et⟩ := cond_run (T := T) (o := o) (At.le hA)
  rw [ec]
  have hR : Rn T e false b [] 0 o (z, b1, if z = true then o1 else []) := by
    cases z with
    | false => exact ef rfl
    | true => exact et rfl
  refine Sp_of ok_X3_readCondition rfl rfl ?_
  show AW S m_X3_readCondition 16 _ _ 0 0 0 [some (.ref 220), none, none] [] (hp I L w1 w2 t)
  refine a_l0 rfl rfl rfl ?_
  refine a_s rfl rfl ?_
  refine a_puti rfl pfX3_68_3 rfl ?_
  refine a_l0 rfl rfl rfl ?_
  refine a_s rfl rfl ?_
  refine a_puti rfl pfX3_72_3 rfl ?_
  refine a_s rfl rfl ?_
  refine a_s1 rfl rfl rfl rfl rfl rfl ?_
  have hL0 : Lr T e b w2 [] 0 o (up2 (up2 I 220 4 0) 220 5 0) := ⟨At.eq hA (fun q g1 g2 => by rw [up2_row (by omega), up2_row (by omega)]), ⟨(up2_ne (Or.inr (by decide))).trans up2_at, up2_at, trivial⟩, ⟨by rw [up2_row (by decide), up2_row (by decide)]; exact hc1, by rw [up2_row (by decide), up2_row (by decide)]; exact hc2⟩, he⟩
  refine a_inv (n := e - b) (fun m ls h => ∃ i b' w' st' d' o' J, ls = [some (.ref 220), some (.int (nI i)), none] ∧ h = hp J L w1 w' t ∧ Fm sC I J ∧ Lr T e b' w' st' d' o' J ∧ o'.length + st'.length ≤ b' ∧ Rn T e false b' st' d' o' (z, b1, if z = true then o1 else []) ∧ i < b' ∧ m = e - b') ⟨0, b, w2, [], 0, o, _, rfl, rfl, Fm.up (Fm.up Fm.rf rfl) rfl, hL0, hB, hR, h0, rfl⟩ ?_
  rintro m _ _ ⟨i, b', w', st', d', o', J, rfl, rfl, hF, hL, hB', hR', hib, hm⟩ ih
  have hb4 := Lr.be hL
  refine a_l1 rfl rfl rfl ?_
  refine a_s rfl rfl ?_
  refine a_ic_ge rfl (fun c => absurd c (nI_ge (b := 400) (by omega) (by omega))) (fun _ => ?_)
  refine a_l0 rfl rfl rfl ?_
  refine a_gV rfl lX3_75 mo_X3_openDeeper (f_openDeeper hw hL hB' hR') rfl rfl rfl ⟨3, _, rfl, rfl, rfl⟩ rfl (fun v' h' hv => ?_)
  obtain ⟨z2, b2, w3, st2, d2, J2, rfl, rfl, f2, hL2, hbb2, hB2, hz0, hz1⟩ := hv
  have hF2 : Fm sC I J2 := Fm.tr hF f2
  cases z2 with
  | false =>
    refine a_if_eq rfl (fun _ => ?_) (fun z => absurd rfl z)
    have e9 := hz0 rfl
    refine a_s rfl rfl ?_
    cases z with
    | true => cases e9
    | false =>
      have e9 : b1 = b2 := congrArg (fun r : PR => r.2.1) e9
      subst e9
      exact a_zret rfl rfl rfl ⟨rfl, J2, w3, rfl, hF2, Lr.at hL2, fun z => by cases z⟩
  | true =>
  refine a_if_eq rfl (fun z => absurd z (by decide)) (fun _ => ?_)
  obtain ⟨hno, hR2⟩ := hz1 rfl
  obtain ⟨-, -, -, r4⟩ := Rn_A hR2
  have r4 := r4 hno
  have g0 := baseP_gd (T := T) (o := o') (At.le (Lr.at hL2))
  refine a_l0 rfl rfl rfl ?_
  refine a_gV rfl lX3_78 mo_X3_readAtom (f_readAtom hw hL2 hB2) rfl rfl rfl ⟨3, _, rfl, rfl, rfl⟩ rfl (fun v' h' hv => ?_)
  obtain ⟨rfl, J3, w4, rfl, f3, hA3, hz3⟩ := hv
  have hF3 : Fm sC I J3 := Fm.tr hF2 f3
  generalize baseP T e b2 o' = r at r4 g0 hA3 hz3
  obtain ⟨zr, b3, o3⟩ := r
  cases zr with
  | false =>
    refine a_if_ne rfl (fun z => absurd rfl z) (fun _ => ?_)
    have e9 := r4.2 Bool.false_ne_true
    refine a_s rfl rfl ?_
    cases z with
    | true => cases e9
    | false =>
      have e9 : b1 = b3 := congrArg (fun r : PR => r.2.1) e9
      subst e9
      exact a_zret rfl rfl rfl ⟨rfl, J3, w4, rfl, hF3, hA3, fun z => by cases z⟩
  | true =>
  refine a_if_ne rfl (fun _ => ?_) (fun z => absurd (show (1 : Int32) = 0 from z) (by decide))
  have h3 : Lr T e b3 w4 st2 d2 o3 J3 := hz3 rfl
  obtain ⟨g1, g2, g3⟩ := g0
  have g3 : b2 < b3 ∧ o3.length + b2 ≤ o'.length + b3 := g3 rfl
  have hR3 := r4.1 rfl
  refine a_l0 rfl rfl rfl ?_
  refine a_gV rfl lX3_81 mo_X3_closeDeeper (f_closeDeeper hw h3 (by omega) hR3) rfl rfl rfl ⟨3, _, rfl, rfl, rfl⟩ rfl (fun v' h' hv => ?_)
  obtain ⟨rfl, b4, w5, st4, d4, o4, J4, rfl, f4, hL4, hbb4, hB4, hfin⟩ := hv
  have hF4 : Fm sC I J4 := Fm.tr hF3 f4
  refine a_l0 rfl rfl rfl ?_
  refine a_eV1 rfl lX3_84 mo_X3_joinAtHand (f_joinAtHand hw (Lr.at hL4)) rfl rfl rfl ⟨3, _, rfl, rfl, rfl⟩ rfl ?_
  have hbe4 := At.le (Lr.at hL4)
  have hb44 := Lr.be hL4
  -- a join
  have k69 : ∀ x : Int32, b4 < nx T e b4 → Rn T e false (nx T e b4) (x :: (popF x st4 d4 o4).1) (popF x st4 d4 o4).2.1 (popF x st4 d4 o4).2.2 (z, b1, if z = true then o1 else []) → AW S m_X3_readCondition 16 (fun v h' => v = some (.int (bI (z, b1, o1).1)) ∧ ∃ J w, h' = hp J L w1 w t ∧ Fm sC I J ∧ At T e (z, b1, o1).2.1 w J ∧ ((z, b1, o1).1 = true → J 226 1 = nI (z, b1, o1).2.2.length ∧ RowL (J 231) (z, b1, o1).2.2)) nX 0 0 69 [some (.ref 220), some (.int (nI i)), some (.int x)] [] (hp J4 L w1 w5 t) := by
    intro x hn hRx
    refine a_l0 rfl rfl rfl ?_
    refine a_l2 rfl rfl rfl ?_
    refine a_gV rfl lX3_87 mo_X3_emitHeld (f_emitHeld (op := x) hL4 hB4 hfin.1) rfl rfl rfl ⟨3, _, rfl, rfl, rfl⟩ rfl (fun v' h' hv => ?_)
    obtain ⟨rfl, K, rfl, fK, hK⟩ := hv
    have hlen := popF_len (op := x) st4 d4 o4
    have hl32 := (Rn_A hRx).2.1
    have hl32 : (popF x st4 d4 o4).1.length + 1 < 32 := hl32
    refine a_l0 rfl rfl rfl ?_
    refine a_l2 rfl rfl rfl ?_
    refine a_eV0 rfl lX3_90 mo_X3_hold (f_hold (Lr.hd hK) (by omega)) rfl rfl rfl ⟨3, _, rfl, rfl, rfl⟩ rfl ?_
    have hK1 := Lr.ho (x := x) hK
    refine a_l0 rfl rfl rfl ?_
    refine a_getq rfl gfX3_28_3 rfl (rfl) ?_
    refine a_gV rfl lX3_93 mo_X9_next (g_next hw (Lr.at hK1)) rfl rfl rfl ⟨9, _, rfl, rfl, rfl⟩ rfl (fun v' h' hv => ?_)
    obtain ⟨rfl, J6, w6, rfl, hA6, hf6⟩ := hv
    refine a_iv1 (y := nI (i + 1)) rfl rfl rfl ((nI_succ i).symm) ?_
    refine a_goto rfl ?_
    have hn6 := nx_le (T := T) hbe4
    exact a_less (ih (e - nx T e b4) _ _ (by omega) ⟨i + 1, nx T e b4, w6, x :: (popF x st4 d4 o4).1, (popF x st4 d4 o4).2.1, (popF x st4 d4 o4).2.2, J6, rfl, rfl, Fm.nx (Fm.up (Fm.up (Fm.tr hF4 fK) rfl) rfl) hf6, Lr.mv hK1 hA6 hf6, by simp only [List.length_cons]; omega, hRx, by omega, rfl⟩) ⟨rfl, rfl, trivial⟩
  cases c20 : isWd T e b4 20 with
  | true =>
    refine a_top (y := 2004) (if_pos c20) ?_
    refine a_s2 rfl rfl rfl rfl rfl rfl ?_
    refine a_l2 rfl rfl rfl ?_
    refine a_s rfl rfl ?_
    refine a_ic_ne rfl (fun _ => ?_) (fun c => absurd c (by decide))
    exact k69 2004 (nx_lt (isWd_lt c20)) (hfin.2.1 c20)
  | false =>
  cases c19 : isWd T e b4 19 with
  | true =>
    refine a_top (y := 2005) ((if_neg (by rw [c20]; decide)).trans (if_pos c19)) ?_
    refine a_s2 rfl rfl rfl rfl rfl rfl ?_
    refine a_l2 rfl rfl rfl ?_
    refine a_s rfl rfl ?_
    refine a_ic_ne rfl (fun _ => ?_) (fun c => absurd c (by decide))
    exact k69 2005 (nx_lt (isWd_lt c19)) (hfin.2.2.1 c20 c19)
  | false =>
    refine a_top (y := (-1)) ((if_neg (by rw [c20]; decide)).trans (if_neg (by rw [c19]; decide))) ?_
    refine a_s2 rfl rfl rfl rfl rfl rfl ?_
    refine a_l2 rfl rfl rfl ?_
    refine a_s rfl rfl ?_
    refine a_ic_ne rfl (fun c => absurd rfl c) (fun _ => ?_)
    have hE := hfin.2.2.2 c20 c19
    refine a_l0 rfl rfl rfl ?_
    refine a_s rfl rfl ?_
    refine a_gV rfl lX3_87 mo_X3_emitHeld (f_emitHeld (op := 2005) hL4 hB4 hfin.1) rfl rfl rfl ⟨3, _, rfl, rfl, rfl⟩ rfl (fun v' h' hv => ?_)
    obtain ⟨rfl, K, rfl, fK, hK⟩ := hv
    have hFK : Fm sC I K := Fm.tr hF4 fK
    have hlen := popF_len (op := 2005) st4 d4 o4
    generalize popF 2005 st4 d4 o4 = p at hK hE hlen
    obtain ⟨ps, pd, po⟩ := p
    refine a_l0 rfl rfl rfl ?_
    refine a_getiv (v := nI ps.length) rfl gfX3_68_3 rfl (Lr.hd hK) ?_
    cases ps with
    | nil =>
      refine a_if_ne rfl (fun z => absurd rfl z) (fun _ => ?_)
      refine a_s rfl rfl ?_
      refine a_goto rfl ?_
      have hE : (z, b1, if z = true then o1 else []) = (true, b4, po) := hE
      cases z with
      | false => cases hE
      | true =>
        have e1 : b1 = b4 := congrArg (fun r : PR => r.2.1) hE
        have e2 : o1 = po := congrArg (fun r : PR => r.2.2) hE
        subst e1
        subst e2
        exact a_zret rfl rfl rfl ⟨rfl, K, w5, rfl, hFK, Lr.at hK, fun _ => ⟨Lr.cl hK, Lr.co hK⟩⟩
    | cons x r =>
      have hlen : r.length + 1 + po.length = st4.length + o4.length := hlen
      refine a_if_ne rfl (fun _ => ?_) (fun c => ?_)
      · refine a_s rfl rfl ?_
        have hE : (z, b1, if z = true then o1 else []) = (false, b4, []) := hE
        cases z with
        | true => cases hE
        | false =>
          have e1 : b1 = b4 := congrArg (fun r : PR => r.2.1) hE
          subst e1
          exact a_zret rfl rfl rfl ⟨rfl, K, w5, rfl, hFK, Lr.at hK, fun z => by cases z⟩
      · exfalso
        have := (nI_eq0 (a := r.length + 1) (by omega)).mp c
        omega
end T79e
end
section
/-! ===== the class's reader of laws: a line, all lines, a law ===== -/
section T79f
variable {S : aS} {I : Nat → Nat → Int32} {L : Nat → Nat → Int64} {w1 w2 t : Nat} {e b : Nat} {T : Nat → Int32} {o : List Int32} {ls : List LnT}
set_option maxRecDepth 100000
theorem f_takeKind (hw : WdS S) (h : At T e b w2 I) : Sp S m_X3_takeKind 15 0 0 [.ref 220] (hp I L w1 w2 t) (fun v h' => v = some (.int (kndP T e b)) ∧ ∃ J w, h' = hp J L w1 w t ∧ At T e (if kndP T e b = -1 then b else nx T e b) w J ∧ ∀ q, q ≠ 221 → J q = I q) nX := by
  refine Sp_of ok_X3_takeKind rfl rfl ?_
  show AW S m_X3_takeKind 15 _ _ 0 0 0 [some (.ref 220)] [] (hp I L w1 w2 t)
  refine a_l0 rfl rfl rfl ?_
  refine a_getq rfl gfX3_28_3 rfl (rfl) ?_
  refine a_gets rfl (inC4 (i := 77) rfl rfl) (hw.st (i := 15) (by decide)) ?_
  refine a_gV rfl lX3_48 mo_X9_takeWord (f_takeWord (k := 15) hw h (by decide)) rfl rfl rfl ⟨9, _, rfl, rfl, rfl⟩ rfl (fun v' h' hv => ?_)
  obtain ⟨rfl, J1, wa, rfl, hA1, hf1⟩ := hv
  cases c1 : isWd T e b 15 with
  | true =>
    refine a_if_eq rfl (fun z => absurd z (by decide)) (fun _ => ?_)
    rw [c1, if_pos rfl] at hA1
    have ek : kndP T e b = 0 := if_pos c1
    rw [ek, if_neg (by decide)]
    refine a_s rfl rfl ?_
    exact a_iret rfl rfl ⟨rfl, J1, wa, rfl, hA1, hf1⟩
  | false =>
  refine a_if_eq rfl (fun _ => ?_) (fun z => absurd rfl z)
  rw [c1, if_neg (by decide)] at hA1
  refine a_l0 rfl rfl rfl ?_
  refine a_getq rfl gfX3_28_3 rfl (rfl) ?_
  refine a_gets rfl (inC4 (i := 83) rfl rfl) (hw.st (i := 16) (by decide)) ?_
  refine a_gV rfl lX3_48 mo_X9_takeWord (f_takeWord (k := 16) hw hA1 (by decide)) rfl rfl rfl ⟨9, _, rfl, rfl, rfl⟩ rfl (fun v' h' hv => ?_)
  obtain ⟨rfl, J2, wb, rfl, hA2, hf2⟩ := hv
  cases c2 : isWd T e b 16 with
  | true =>
    refine a_if_eq rfl (fun z => absurd z (by decide)) (fun _ => ?_)
    rw [c2, if_pos rfl] at hA2
    have ek : kndP T e b = 1 := (if_neg (by rw [c1]; decide)).trans (if_pos c2)
    rw [ek, if_neg (by decide)]
    refine a_s rfl rfl ?_
    exact a_iret rfl rfl ⟨rfl, J2, wb, rfl, hA2, fun q hq => (hf2 q hq).trans (hf1 q hq)⟩
  | false =>
  refine a_if_eq rfl (fun _ => ?_) (fun z => absurd rfl z)
  rw [c2, if_neg (by decide)] at hA2
  refine a_l0 rfl rfl rfl ?_
  refine a_getq rfl gfX3_28_3 rfl (rfl) ?_
  refine a_gets rfl (inC4 (i := 85) rfl rfl) (hw.st (i := 17) (by decide)) ?_
  refine a_gV rfl lX3_48 mo_X9_takeWord (f_takeWord (k := 17) hw hA2 (by decide)) rfl rfl rfl ⟨9, _, rfl, rfl, rfl⟩ rfl (fun v' h' hv => ?_)
  obtain ⟨rfl, J3, wc, rfl, hA3, hf3⟩ := hv
  have hf : ∀ q, q ≠ 221 → J3 q = I q := fun q hq => (hf3 q hq).trans ((hf2 q hq).trans (hf1 q hq))
  cases c3 : isWd T e b 17 with
  | true =>
    refine a_if_eq rfl (fun z => absurd z (by decide)) (fun _ => ?_)
    rw [c3, if_pos rfl] at hA3
    have ek : kndP T e b = 2 := (if_neg (by rw [c1]; decide)).trans ((if_neg (by rw [c2]; decide)).trans (if_pos c3))
    rw [ek, if_neg (by decide)]
    refine a_s rfl rfl ?_
    refine a_goto rfl ?_
    exact a_iret rfl rfl ⟨rfl, J3, wc, rfl, hA3, hf⟩
  | false =>
    refine a_if_eq rfl (fun _ => ?_) (fun z => absurd rfl z)
    rw [c3, if_neg (by decide)] at hA3
    have ek : kndP T e b = -1 := (if_neg (by rw [c1]; decide)).trans ((if_neg (by rw [c2]; decide)).trans (if_neg (by rw [c3]; decide)))
    rw [ek, if_pos rfl]
    refine a_s rfl rfl ?_
    exact a_iret rfl rfl ⟨rfl, J3, wc, rfl, hA3, hf⟩
theorem f_openLine {k n : Nat} (h0 : I 226 0 = nI k) (hk : k < 12) (h1 : I 226 1 = nI n) {x y : Int32} : SpE S m_X2_openLine 13 [.ref 226, .int x, .int y] (hp I L w1 w2 t) none (hp (up2 (up2 (up2 I 227 k x) 228 k y) 229 k (nI n)) L w1 w2 t) := by
  refine SpE_of ok_X2_openLine rfl rfl ?_
  show AW S m_X2_openLine 13 _ _ 0 0 0 [some (.ref 226), some (.int x), some (.int y)] [] (hp I L w1 w2 t)
  refine a_l0 rfl rfl rfl ?_
  refine a_getq rfl gfX2_15_2 rfl (rfl) ?_
  refine a_l0 rfl rfl rfl ?_
  refine a_getiv (v := nI k) rfl gfX2_11_2 rfl (h0) ?_
  refine a_l1 rfl rfl rfl ?_
  refine a_eSN0 rfl lX2_44 mo_X11_setAt (sp_X11_setAt rfl) rfl rfl rfl rfl ?_
  rw [setF_nI hk (by decide)]
  refine a_l0 rfl rfl rfl ?_
  refine a_getq rfl gfX2_19_2 rfl (rfl) ?_
  refine a_l0 rfl rfl rfl ?_
  refine a_getiv (v := nI k) rfl gfX2_11_2 rfl ((congrFun (up2_row (by decide)) 0).trans h0) ?_
  refine a_l2 rfl rfl rfl ?_
  refine a_eSN0 rfl lX2_44 mo_X11_setAt (sp_X11_setAt rfl) rfl rfl rfl rfl ?_
  rw [setF_nI hk (by decide)]
  refine a_l0 rfl rfl rfl ?_
  refine a_getq rfl gfX2_22_2 rfl (rfl) ?_
  refine a_l0 rfl rfl rfl ?_
  refine a_getiv (v := nI k) rfl gfX2_11_2 rfl ((congrFun (up2_row (by decide)) 0).trans ((congrFun (up2_row (by decide)) 0).trans h0)) ?_
  refine a_l0 rfl rfl rfl ?_
  refine a_getiv (v := nI n) rfl gfX2_41_2 rfl ((congrFun (up2_row (by decide)) 1).trans ((congrFun (up2_row (by decide)) 1).trans h1)) ?_
  refine a_eSN0 rfl lX2_44 mo_X11_setAt (sp_X11_setAt rfl) rfl rfl rfl rfl ?_
  rw [setF_nI hk (by decide)]
  exact a_vret rfl rfl ⟨rfl, rfl⟩
theorem f_closeLine {k n : Nat} (h0 : I 226 0 = nI k) (hk : k < 12) (h1 : I 226 1 = nI n) : SpE S m_X2_closeLine 13 [.ref 226] (hp I L w1 w2 t) none (hp (up2 (up2 I 230 k (nI n)) 226 0 (nI (k + 1))) L w1 w2 t) := by
  refine SpE_of ok_X2_closeLine rfl rfl ?_
  show AW S m_X2_closeLine 13 _ _ 0 0 0 [some (.ref 226)] [] (hp I L w1 w2 t)
  refine a_l0 rfl rfl rfl ?_
  refine a_getq rfl gfX2_25_2 rfl (rfl) ?_
  refine a_l0 rfl rfl rfl ?_
  refine a_getiv (v := nI k) rfl gfX2_11_2 rfl (h0) ?_
  refine a_l0 rfl rfl rfl ?_
  refine a_getiv (v := nI n) rfl gfX2_41_2 rfl (h1) ?_
  refine a_eSN0 rfl lX2_44 mo_X11_setAt (sp_X11_setAt rfl) rfl rfl rfl rfl ?_
  rw [setF_nI hk (by decide)]
  refine a_l0 rfl rfl rfl ?_
  refine a_s rfl rfl ?_
  refine a_getiv (v := nI k) rfl gfX2_11_2 rfl ((congrFun (up2_row (by decide)) 0).trans h0) ?_
  refine a_s rfl rfl ?_
  refine a_s rfl rfl ?_
  refine a_top (y := nI (k + 1)) ((nI_succ k).symm) ?_
  refine a_puti rfl pfX2_11_2 rfl ?_
  exact a_vret rfl rfl ⟨rfl, rfl⟩
/-- what a law's lines may change -/
def sW (q k : Nat) : Bool := sC q k || ((Nat.ble 227 q && Nat.ble q 230) || ((Nat.ble 222 q && Nat.ble q 225) || (Nat.beq q 226 && Nat.beq k 0)))
theorem sC_sW : ∀ q k, sC q k = true → sW q k = true := fun q k h => by
  unfold sW
  rw [h]
  rfl
/-- the draft of a law, lines and codes so far -/
def Ld (T : Nat → Int32) (e b w : Nat) (o : List Int32) (ls : List LnT) (J : Nat → Nat → Int32) : Prop := At T e b w J ∧ J 226 1 = nI o.length ∧ RowL (J 231) o ∧ J 226 0 = nI ls.length ∧ LnL (J 227) (J 228) (J 229) (J 230) ls ∧ o.length ≤ b ∧ e ≤ 400
theorem f_readLine (hw : WdS S) (h : Ld T e b w2 o ls I) (h12 : ls.length < 12) : Sp S m_X3_readLine 17 0 0 [.ref 220] (hp I L w1 w2 t) (fun v h' => v = some (.int (bI (lnP T e b o).1)) ∧ ∃ J w, h' = hp J L w1 w t ∧ Fm sW I J ∧ At T e (lnP T e b o).2.1 w J ∧ ((lnP T e b o).1 = true → Ld T e (lnP T e b o).2.1 w (lnP T e b o).2.2 (lnV T e b o (lnP T e b o).2.2 :: ls) J)) nX := by
  obtain ⟨hA, l1, l2, l3, l4, l5, l6⟩ := h
  have hbe := At.le hA
  have gd := lnP_gd (T := T) (o := o) hbe
  refine Sp_of ok_X3_readLine rfl rfl ?_
  show AW S m_X3_readLine 17 _ _ 0 0 0 [some (.ref 220), none, none] [] (hp I L w1 w2 t)
  have fmx : ∀ {J J' : Nat → Nat → Int32}, Fm sW I J → (∀ q, q ≠ 221 → J' q = J q) → Fm sW I J' := fun {J J'} h f q k hq => by
    rw [f q (by intro z; subst z; cases hq)]
    exact h q k hq
  refine a_l0 rfl rfl rfl ?_
  refine a_gV rfl lX3_24 mo_X3_takeKind (f_takeKind hw hA) rfl rfl rfl ⟨3, _, rfl, rfl, rfl⟩ rfl (fun v' h' hv => ?_)
  obtain ⟨rfl, J1, wa, rfl, hA1, hf1⟩ := hv
  have hF1 : Fm sW I J1 := fmx Fm.rf hf1
  refine a_s1 rfl rfl rfl rfl rfl rfl ?_
  refine a_l1 rfl rfl rfl ?_
  refine a_s rfl rfl ?_
  refine a_ic_ne rfl (fun c1 => ?_) (fun c1 => ?_)
  rotate_left
  · have el : lnP T e b o = (false, b, []) := if_pos c1
    rw [c1, if_pos rfl] at hA1
    rw [el]
    refine a_s rfl rfl ?_
    exact a_zret rfl rfl rfl ⟨rfl, J1, wa, rfl, hF1, hA1, fun z => by cases z⟩
  rw [if_neg c1] at hA1
  have n1 := nx_lt (T := T) (knd_lt c1)
  refine a_l0 rfl rfl rfl ?_
  refine a_getq rfl gfX3_28_3 rfl (rfl) ?_
  refine a_s rfl rfl ?_
  refine a_s rfl rfl ?_
  refine a_gV rfl lX3_32 mo_X9_takeNumber (f_takeNumber (lo := 0) (hi := 60) hw hA1 (by decide)) rfl rfl rfl ⟨9, _, rfl, rfl, rfl⟩ rfl (fun v' h' hv => ?_)
  obtain ⟨rfl, J2, wb, rfl, hA2, hf2⟩ := hv
  have hF2 : Fm sW I J2 := fmx hF1 hf2
  refine a_s2 rfl rfl rfl rfl rfl rfl ?_
  refine a_l2 rfl rfl rfl ?_
  refine a_s rfl rfl ?_
  refine a_ic_ne rfl (fun c2 => ?_) (fun c2 => ?_)
  rotate_left
  · have el : lnP T e b o = (false, nx T e b, []) := (if_neg c1).trans (if_pos c2)
    rw [c2, if_pos rfl] at hA2
    rw [el]
    refine a_s rfl rfl ?_
    exact a_zret rfl rfl rfl ⟨rfl, J2, wb, rfl, hF2, hA2, fun z => by cases z⟩
  rw [if_neg c2] at hA2
  have n2 := nx_lt (T := T) (nm_lt c2)
  have f12 : ∀ q, q ≠ 221 → J2 q = I q := fun q hq => (hf2 q hq).trans (hf1 q hq)
  refine a_l0 rfl rfl rfl ?_
  refine a_getq rfl gfX3_14_3 rfl (rfl) ?_
  refine a_l1 rfl rfl rfl ?_
  refine a_l2 rfl rfl rfl ?_
  refine a_eV0 rfl lX3_38 mo_X2_openLine (f_openLine ((congrFun (f12 226 (by decide)) 0).trans l3) h12 ((congrFun (f12 226 (by decide)) 1).trans l1)) rfl rfl rfl ⟨2, _, rfl, rfl, rfl⟩ rfl ?_
  refine a_ren (P := fun J => Fm sW I J ∧ At T e (nx T e (nx T e b)) wb J ∧ J 226 1 = nI o.length ∧ RowL (J 231) o ∧ J 226 0 = nI ls.length ∧ J 227 ls.length = kndP T e b ∧ J 228 ls.length = nm T e (nx T e b) 0 60 ∧ J 229 ls.length = nI o.length ∧ LnL (J 227) (J 228) (J 229) (J 230) ls) ⟨Fm.up (Fm.up (Fm.up hF2 rfl) rfl) rfl, At.eq hA2 (fun q g1 g2 => by rw [up2_row (by omega), up2_row (by omega), up2_row (by omega)]), ?_, ?_, ?_, ?_, ?_, ?_, ?_⟩ (fun J3 hJ3 => ?_)
  · rw [up2_row (by decide), up2_row (by decide), up2_row (by decide), f12 226 (by decide)]
    exact l1
  · rw [up2_row (by decide), up2_row (by decide), up2_row (by decide), f12 231 (by decide)]
    exact l2
  · rw [up2_row (by decide), up2_row (by decide), up2_row (by decide), f12 226 (by decide)]
    exact l3
  · rw [up2_row (by decide), up2_row (by decide)]
    exact up2_at
  · rw [up2_row (by decide)]
    exact up2_at
  · exact up2_at
  · refine LnL.eq l4 (fun i hi => ⟨?_, ?_, ?_, ?_⟩)
    · rw [up2_row (by decide), up2_row (by decide), up2_ne (Or.inr (by omega)), f12 227 (by decide)]
    · rw [up2_row (by decide), up2_ne (Or.inr (by omega)), up2_row (by decide), f12 228 (by decide)]
    · rw [up2_ne (Or.inr (by omega)), up2_row (by decide), up2_row (by decide), f12 229 (by decide)]
    · rw [up2_row (by decide), up2_row (by decide), up2_row (by decide), f12 230 (by decide)]
  obtain ⟨hF3, hA3, m1, m2, m3, m4, m5, m6, m7⟩ := hJ3
  -- the line is closed
  have k61 : ∀ (b1 : Nat) (o1 : List Int32) (J : Nat → Nat → Int32) (w : Nat), lnP T e b o = (true, b1, o1) → Fm sW I J → At T e b1 w J → J 226 1 = nI o1.length → RowL (J 231) o1 → J 226 0 = nI ls.length → (∀ q, 227 ≤ q → q ≤ 230 → J q = J3 q) → AW S m_X3_readLine 17 (fun v h' => v = some (.int (bI (lnP T e b o).1)) ∧ ∃ J w, h' = hp J L w1 w t ∧ Fm sW I J ∧ At T e (lnP T e b o).2.1 w J ∧ ((lnP T e b o).1 = true → Ld T e (lnP T e b o).2.1 w (lnP T e b o).2.2 (lnV T e b o (lnP T e b o).2.2 :: ls) J)) nX 0 0 61 [some (.ref 220), some (.int (kndP T e b)), some (.int (nm T e (nx T e b) 0 60))] [] (hp J L w1 w t) := by
    intro b1 o1 J w el hF hAb p1 p2 p3 p4
    rw [el] at gd ⊢
    obtain ⟨-, g2, g3⟩ := gd
    have g3 : b < b1 ∧ o1.length + b ≤ o.length + b1 := g3 rfl
    refine a_l0 rfl rfl rfl ?_
    refine a_getq rfl gfX3_14_3 rfl (rfl) ?_
    refine a_eV0 rfl lX3_56 mo_X2_closeLine (f_closeLine p3 h12 p1) rfl rfl rfl ⟨2, _, rfl, rfl, rfl⟩ rfl ?_
    refine a_s rfl rfl ?_
    refine a_zret rfl rfl rfl ⟨rfl, _, w, rfl, Fm.up (Fm.up hF rfl) rfl, At.eq hAb (fun q g1 g2 => by rw [up2_row (by omega), up2_row (by omega)]), fun _ => ⟨At.eq hAb (fun q g1 g2 => by rw [up2_row (by omega), up2_row (by omega)]), ?_, ?_, up2_at, ⟨⟨?_, ?_, ?_, ?_⟩, ?_⟩, by show o1.length ≤ b1; omega, l6⟩⟩
    · rw [up2_ne (Or.inr (by decide)), up2_row (by decide)]
      exact p1
    · rw [up2_row (by decide), up2_row (by decide)]
      exact p2
    · rw [up2_row (by decide), up2_row (by decide), p4 227 (by decide) (by decide)]
      exact m4
    · rw [up2_row (by decide), up2_row (by decide), p4 228 (by decide) (by decide)]
      exact m5
    · rw [up2_row (by decide), up2_row (by decide), p4 229 (by decide) (by decide)]
      exact m6
    · rw [up2_row (by decide)]
      exact up2_at
    · refine LnL.eq m7 (fun i hi => ⟨?_, ?_, ?_, ?_⟩)
      · rw [up2_row (by decide), up2_row (by decide), p4 227 (by decide) (by decide)]
      · rw [up2_row (by decide), up2_row (by decide), p4 228 (by decide) (by decide)]
      · rw [up2_row (by decide), up2_row (by decide), p4 229 (by decide) (by decide)]
      · rw [up2_row (by decide), up2_ne (Or.inr (by omega)), p4 230 (by decide) (by decide)]
  refine a_l0 rfl rfl rfl ?_
  refine a_getq rfl gfX3_28_3 rfl (rfl) ?_
  refine a_gets rfl (inC4 (i := 95) rfl rfl) (hw.st (i := 18) (by decide)) ?_
  refine a_gV rfl lX3_48 mo_X9_takeWord (f_takeWord (k := 18) hw hA3 (by decide)) rfl rfl rfl ⟨9, _, rfl, rfl, rfl⟩ rfl (fun v' h' hv => ?_)
  obtain ⟨rfl, J4, wd4, rfl, hA4, hf4⟩ := hv
  have hF4 : Fm sW I J4 := fmx hF3 hf4
  have q1 : J4 226 1 = nI o.length := (congrFun (hf4 226 (by decide)) 1).trans m1
  have q2 : RowL (J4 231) o := by
    rw [hf4 231 (by decide)]
    exact m2
  have q3 : J4 226 0 = nI ls.length := (congrFun (hf4 226 (by decide)) 0).trans m3
  have n2e := nx_le (T := T) (nx_le (T := T) hbe)
  cases c3 : isWd T e (nx T e (nx T e b)) 18 with
  | false =>
    refine a_if_eq rfl (fun _ => ?_) (fun z => absurd rfl z)
    rw [c3, if_neg (by decide)] at hA4
    exact k61 _ _ J4 wd4 ((if_neg c1).trans ((if_neg c2).trans (if_neg (by rw [c3]; decide)))) hF4 hA4 q1 q2 q3 (fun q g1 g2 => hf4 q (by omega))
  | true =>
    refine a_if_eq rfl (fun z => absurd z (by decide)) (fun _ => ?_)
    rw [c3, if_pos rfl] at hA4
    have n3 := nx_lt (T := T) (isWd_lt c3)
    have el : lnP T e b o = condR T e 6 (nx T e (nx T e (nx T e b))) o := (if_neg c1).trans ((if_neg c2).trans (if_pos c3))
    refine a_l0 rfl rfl rfl ?_
    refine a_gV rfl lX3_52 mo_X3_readCondition (f_readCondition hw hA4 q1 q2 (by omega) (by omega) l6) rfl rfl rfl ⟨3, _, rfl, rfl, rfl⟩ rfl (fun v' h' hv => ?_)
    obtain ⟨rfl, J5, w5, rfl, f5, hA5, hz5⟩ := hv
    have hF5 : Fm sW I J5 := Fm.tr hF4 (Fm.mo f5 sC_sW)
    rw [← el] at hA5 hz5 ⊢
    rcases er : lnP T e b o with ⟨z, b1, o1⟩
    rw [er] at hA5 hz5
    cases z with
    | false =>
      refine a_if_ne rfl (fun z => absurd rfl z) (fun _ => ?_)
      refine a_s rfl rfl ?_
      exact a_zret rfl rfl rfl ⟨rfl, J5, w5, rfl, hF5, hA5, fun z => by cases z⟩
    | true =>
      refine a_if_ne rfl (fun _ => ?_) (fun z => absurd (show (1 : Int32) = 0 from z) (by decide))
      obtain ⟨y1, y2⟩ := hz5 rfl
      rw [er] at k61
      exact k61 b1 o1 J5 w5 rfl hF5 hA5 y1 y2 ((f5 226 0 rfl).trans q3) (fun q g1 g2 => by
        have e1 : Nat.beq q 221 = false := beqF (by omega)
        have e2 : Nat.beq q 234 = false := beqF (by omega)
        have e3 : Nat.beq q 231 = false := beqF (by omega)
        have e4 : Nat.beq q 220 = false := beqF (by omega)
        have e5 : Nat.beq q 226 = false := beqF (by omega)
        rw [show J5 q = J4 q from funext fun k => f5 q k (by simp [sC, e1, e2, e3, e4, e5]), hf4 q (by omega)])
/-- what is known behind the lines of a law -/
def LwD (r : LRs) (J : Nat → Nat → Int32) : Prop := J 226 1 = nI r.2.2.1.length ∧ RowL (J 231) r.2.2.1 ∧ J 226 0 = nI r.2.2.2.length ∧ LnL (J 227) (J 228) (J 229) (J 230) r.2.2.2 ∧ r.2.2.2.length ≤ 12 ∧ r.2.2.1.length ≤ 400
theorem f_readLines (hw : WdS S) (he : I 201 1 = nI e) (h4 : e ≤ 400) (hbt : BtT (I 202)) (hm0 : I 220 1 = 12) (h0 : I 226 0 = 0) (h1 : I 226 1 = 0) : Sp S m_X8_readLines 20 0 0 [.ref 220, .ref 201] (hp I L w1 w2 t) (fun v h' => v = some (.int (if (lawP (I 202) e).1 = true then -1 else nI (lawP (I 202) e).2.1)) ∧ ∃ J w, h' = hp J L w1 w t ∧ WK w ∧ Fm sW I J ∧ ((lawP (I 202) e).1 = true → LwD (lawP (I 202) e) J)) nX := by
  refine Sp_of ok_X8_readLines rfl rfl ?_
  show AW S m_X8_readLines 20 _ _ 0 0 0 [some (.ref 220), some (.ref 201), none] [] (hp I L w1 w2 t)
  generalize hT : I 202 = T at hbt ⊢
  refine a_l0 rfl rfl rfl ?_
  refine a_getq rfl gfX8_12_3 rfl (rfl) ?_
  refine a_l1 rfl rfl rfl ?_
  refine a_gV rfl lX8_22 mo_X9_scan (f_scan hw he h4 (by rw [hT]; exact hbt)) rfl rfl rfl ⟨9, _, rfl, rfl, rfl⟩ rfl (fun v' h' hv => ?_)
  obtain ⟨rfl, J1, wa, rfl, hA1, hf1⟩ := hv
  rw [hT] at hA1
  have hF1 : Fm sW I J1 := fun q k hq => by
    by_cases c : 221 ≤ q ∧ q ≤ 225
    · exfalso
      rcases Nat.eq_or_lt_of_le c.1 with z | z
      · subst z
        cases hq
      · unfold sW at hq
        rw [Nat.ble_eq_true_of_le (show 222 ≤ q from z), Nat.ble_eq_true_of_le c.2] at hq
        simp at hq
    · rw [hf1 q c]
  have hL1 : Ld T e (bg T e 0) wa [] [] J1 := ⟨hA1, (congrFun (hf1 226 (by omega)) 1).trans (h1.trans nI_0.symm), trivial, (congrFun (hf1 226 (by omega)) 0).trans (h0.trans nI_0.symm), trivial, Nat.zero_le _, h4⟩
  refine a_l0 rfl rfl rfl ?_
  refine a_getq rfl gfX8_12_3 rfl (rfl) ?_
  refine a_eV1 rfl lX8_26 mo_X9_isEnd (f_isEnd hA1) rfl rfl rfl ⟨9, _, rfl, rfl, rfl⟩ rfl ?_
  by_cases c0 : bg T e 0 < e
  rotate_left
  · rw [show decide (¬ bg T e 0 < e) = true from decide_eq_true c0]
    refine a_if_eq rfl (fun z => absurd z (by decide)) (fun _ => ?_)
    have el : lawP T e = (true, bg T e 0, [], []) := if_neg c0
    rw [el, if_pos rfl]
    refine a_s rfl rfl ?_
    exact a_iret rfl rfl ⟨rfl, J1, wa, rfl, At.wk hA1, hF1, fun _ => ⟨hL1.2.1, trivial, hL1.2.2.2.1, trivial, Nat.zero_le _, Nat.zero_le _⟩⟩
  rw [show decide (¬ bg T e 0 < e) = false from decide_eq_false (fun z => z c0)]
  refine a_if_eq rfl (fun _ => ?_) (fun z => absurd rfl z)
  refine a_s rfl rfl ?_
  refine a_s2 rfl rfl rfl rfl rfl rfl ?_
  refine a_inv (n := 12) (fun m ls h => ∃ i b' w' o' ls' J, ls = [some (.ref 220), some (.ref 201), some (.int (nI i))] ∧ h = hp J L w1 w' t ∧ Ld T e b' w' o' ls' J ∧ Fm sW I J ∧ ls'.length = i ∧ i ≤ 12 ∧ lnsP T e (12 - i) b' o' ls' = lawP T e ∧ m = 12 - i) ⟨0, bg T e 0, wa, [], [], J1, rfl, rfl, hL1, hF1, rfl, by decide, (if_pos c0).symm, rfl⟩ ?_
  rintro m _ _ ⟨i, b', w', o', ls', J, rfl, rfl, hL, hF, hli, hi, es, hm⟩ ih
  refine a_l2 rfl rfl rfl ?_
  refine a_l0 rfl rfl rfl ?_
  refine a_getiv (v := 12) rfl gfX8_18_3 rfl ((hF 220 1 rfl).trans hm0) ?_
  refine a_ic_ge rfl (fun c => ?_) (fun c => ?_)
  · have h12 := nI_ge_of (b := 12) c (by omega) (by decide)
    obtain rfl : i = 12 := by omega
    have es : lawP T e = (false, b', [], []) := es.symm
    rw [es, if_neg Bool.false_ne_true]
    refine a_l0 rfl rfl rfl ?_
    refine a_getq rfl gfX8_12_3 rfl (rfl) ?_
    refine a_getiv (v := nI b') rfl gfX8_33_9 rfl (At.be hL.1) ?_
    exact a_iret rfl rfl ⟨rfl, J, w', rfl, At.wk hL.1, hF, fun z => by cases z⟩
  have hi12 : i < 12 := nI_lt_of (b := 12) c (by omega) (by decide)
  obtain ⟨f, hf⟩ : ∃ f, 12 - i = f + 1 := ⟨12 - i - 1, by omega⟩
  rw [hf, lnsP_s] at es
  have gd := lnP_gd (T := T) (o := o') (At.le hL.1)
  have hlen : ls'.length < 12 := by omega
  refine a_l0 rfl rfl rfl ?_
  refine a_callU rfl lu_30_3 dc_readLine mo_X3_readLine hx_rl0 (f_readLine hw hL hlen) rfl rfl rfl ⟨3, _, rfl, rfl, rfl⟩ rfl (fun v' h' hv => ?_) (fun _ _ z => False.elim z)
  obtain ⟨rfl, J2, wb, rfl, f2, hA2, hz2⟩ := hv
  have hF2 : Fm sW I J2 := Fm.tr hF f2
  rcases er : lnP T e b' o' with ⟨z, b1, o1⟩
  rw [er] at es hA2 hz2 gd
  cases z with
  | false =>
    refine a_if_ne rfl (fun z => absurd rfl z) (fun _ => ?_)
    have es : lawP T e = (false, b1, [], []) := es.symm
    rw [es, if_neg Bool.false_ne_true]
    refine a_l0 rfl rfl rfl ?_
    refine a_getq rfl gfX8_12_3 rfl (rfl) ?_
    refine a_getiv (v := nI b1) rfl gfX8_33_9 rfl (At.be hA2) ?_
    exact a_iret rfl rfl ⟨rfl, J2, wb, rfl, At.wk hA2, hF2, fun z => by cases z⟩
  | true =>
  refine a_if_ne rfl (fun _ => ?_) (fun z => absurd (show (1 : Int32) = 0 from z) (by decide))
  have hL2 := hz2 rfl
  obtain ⟨-, g2, g3⟩ := gd
  have g2 : b1 ≤ e := g2
  rw [if_pos rfl] at es
  refine a_l0 rfl rfl rfl ?_
  refine a_getq rfl gfX8_12_3 rfl (rfl) ?_
  refine a_eV1 rfl lX8_26 mo_X9_isEnd (f_isEnd hA2) rfl rfl rfl ⟨9, _, rfl, rfl, rfl⟩ rfl ?_
  by_cases c1 : b1 < e
  rotate_left
  · rw [show decide (¬ b1 < e) = true from decide_eq_true c1]
    refine a_if_eq rfl (fun z => absurd z (by decide)) (fun _ => ?_)
    have es : lawP T e = (true, b1, o1, lnV T e b' o' o1 :: ls') := es.symm.trans (if_neg c1)
    rw [es, if_pos rfl]
    refine a_s rfl rfl ?_
    obtain ⟨-, x1, x2, x3, x4, x5, -⟩ := hL2
    exact a_iret rfl rfl ⟨rfl, J2, wb, rfl, At.wk hA2, hF2, fun _ => ⟨x1, x2, x3, x4, by show ls'.length + 1 ≤ 12; omega, by have x5 : o1.length ≤ b1 := x5; show o1.length ≤ 400; omega⟩⟩
  rw [show decide (¬ b1 < e) = false from decide_eq_false (fun z => z c1)]
  refine a_if_eq rfl (fun _ => ?_) (fun z => absurd rfl z)
  have es := (if_pos c1).symm.trans es
  refine a_l0 rfl rfl rfl ?_
  refine a_getq rfl gfX8_12_3 rfl (rfl) ?_
  refine a_s rfl rfl ?_
  refine a_gV rfl lX8_36 mo_X9_takeSign (f_takeSign hw hA2) rfl rfl rfl ⟨9, _, rfl, rfl, rfl⟩ rfl (fun v' h' hv => ?_)
  obtain ⟨rfl, J3, wc, rfl, hA3, hf3⟩ := hv
  have hF3 : Fm sW I J3 := fun q k hq => by
    rw [hf3 q (by intro z; subst z; cases hq)]
    exact hF2 q k hq
  cases c59 : sg T e b1 59 with
  | false =>
    refine a_if_ne rfl (fun z => absurd rfl z) (fun _ => ?_)
    rw [c59, if_neg (by decide)] at hA3
    have es : lawP T e = (false, b1, [], []) := es.symm.trans (if_neg (by rw [c59]; decide))
    rw [es, if_neg Bool.false_ne_true]
    refine a_l0 rfl rfl rfl ?_
    refine a_getq rfl gfX8_12_3 rfl (rfl) ?_
    refine a_getiv (v := nI b1) rfl gfX8_33_9 rfl (At.be hA3) ?_
    exact a_iret rfl rfl ⟨rfl, J3, wc, rfl, At.wk hA3, hF3, fun z => by cases z⟩
  | true =>
    refine a_if_ne rfl (fun _ => ?_) (fun z => absurd (show (1 : Int32) = 0 from z) (by decide))
    rw [c59, if_pos rfl] at hA3
    have es := (if_pos c59).symm.trans es
    obtain ⟨-, x1, x2, x3, x4, x5, x6⟩ := hL2
    have x5 : o1.length ≤ b1 := x5
    have n1 := nx_lt (T := T) c1
    refine a_iv2 (y := nI (i + 1)) rfl rfl rfl ((nI_succ i).symm) ?_
    refine a_goto rfl ?_
    refine ih (12 - (i + 1)) _ _ (by omega) ⟨i + 1, nx T e b1, wc, o1, lnV T e b' o' o1 :: ls', J3, rfl, rfl, ⟨hA3, ?_, ?_, ?_, ?_, by omega, x6⟩, hF3, by show ls'.length + 1 = i + 1; omega, by omega, by rw [show 12 - (i + 1) = f by omega]; exact es, rfl⟩
    · rw [hf3 226 (by decide)]
      exact x1
    · rw [hf3 231 (by decide)]
      exact x2
    · rw [hf3 226 (by decide)]
      exact x3
    · rw [hf3 227 (by decide), hf3 228 (by decide), hf3 229 (by decide), hf3 230 (by decide)]
      exact x4
end T79f
end
section
/-! ===== the reference's signs, words, numbers, as functions of the tape ===== -/
section T79g
variable {S : aS} {I : Nat → Nat → Int32} {L : Nat → Nat → Int64} {w1 w2 t : Nat} {e p b : Nat}
set_option maxRecDepth 100000
theorem kc4 {x : Int32} : kcF x = 4 ↔ x = 32 := by
  unfold kcF
  by_cases c : x = 32
  · rw [if_pos c]
    exact ⟨fun _ => c, fun _ => rfl⟩
  · rw [if_neg c]
    refine ⟨fun z => ?_, fun z => absurd z c⟩
    by_cases c2 : 97 ≤ x ∧ x ≤ 122
    · rw [if_pos c2] at z
      cases z
    · rw [if_neg c2] at z
      by_cases c3 : 48 ≤ x ∧ x ≤ 57
      · rw [if_pos c3] at z
        cases z
      · rw [if_neg c3] at z
        cases z
theorem kc1 {x : Int32} : kcF x = 1 ↔ 97 ≤ x ∧ x ≤ 122 := by
  unfold kcF
  by_cases c : x = 32
  · rw [if_pos c]
    refine ⟨fun z => (by cases z), fun z => ?_⟩
    rw [c] at z
    exact absurd z.1 (by decide)
  · rw [if_neg c]
    by_cases c2 : 97 ≤ x ∧ x ≤ 122
    · rw [if_pos c2]
      exact ⟨fun _ => c2, fun _ => rfl⟩
    · rw [if_neg c2]
      refine ⟨fun z => ?_, fun z => absurd z c2⟩
      by_cases c3 : 48 ≤ x ∧ x ≤ 57
      · rw [if_pos c3] at z
        cases z
      · rw [if_neg c3] at z
        cases z
theorem kc2 {x : Int32} : kcF x = 2 ↔ 48 ≤ x ∧ x ≤ 57 := by
  unfold kcF
  by_cases c : x = 32
  · rw [if_pos c]
    refine ⟨fun z => (by cases z), fun z => ?_⟩
    rw [c] at z
    exact absurd z.1 (by decide)
  · rw [if_neg c]
    by_cases c2 : 97 ≤ x ∧ x ≤ 122
    · rw [if_pos c2]
      refine ⟨fun z => (by cases z), fun z => absurd (Int32.le_trans c2.1 z.2) (by decide)⟩
    · rw [if_neg c2]
      by_cases c3 : 48 ≤ x ∧ x ≤ 57
      · rw [if_pos c3]
        exact ⟨fun _ => c3, fun _ => rfl⟩
      · rw [if_neg c3]
        exact ⟨fun z => (by cases z), fun z => absurd z c3⟩
def atB (T : Nat → Int32) (e p : Nat) (x y : Int32) : Bool := decide (p < e ∧ x ≤ T p ∧ T p ≤ y)
theorem at_b {T : Nat → Int32} : atB T e p 32 32 = isK T e 4 p := by
  unfold atB isK
  congr 1
  refine propext ⟨fun z => ⟨z.1, kc4.mpr (Int32.le_antisymm z.2.2 z.2.1)⟩, fun z => ?_⟩
  have := kc4.mp z.2
  rw [this]
  exact ⟨z.1, by decide, by decide⟩
theorem at_l {T : Nat → Int32} : atB T e p 97 122 = isK T e 1 p := by
  unfold atB isK
  congr 1
  exact propext ⟨fun z => ⟨z.1, kc1.mpr z.2⟩, fun z => ⟨z.1, kc1.mp z.2⟩⟩
theorem at_d {T : Nat → Int32} : atB T e p 48 57 = isK T e 2 p := by
  unfold atB isK
  congr 1
  exact propext ⟨fun z => ⟨z.1, kc2.mpr z.2⟩, fun z => ⟨z.1, kc2.mp z.2⟩⟩
theorem at_s {T : Nat → Int32} {c : Nat} (hbt : BtT T) (he : e ≤ 400) (hc : c ∈ [40, 41, 43, 59, 60, 62]) : atB T e p (nI c) (nI c) = sg T e p (nI c) := by
  unfold atB sg
  congr 1
  by_cases hp : p < e
  · obtain ⟨n, hn, en⟩ := hbt p (by omega)
    obtain ⟨g1, g2⟩ := bt_sg n hn c hc
    rw [← en] at g1 g2
    refine propext ⟨fun z => ?_, fun z => ?_⟩
    · have e1 := Int32.le_antisymm z.2.2 z.2.1
      have k3 := (kd_lt hp).trans (g2 e1)
      exact ⟨k3, (vl_3 k3).trans (g1.mpr e1)⟩
    · have e1 := g1.mp ((vl_3 z.1).symm.trans z.2)
      rw [e1]
      exact ⟨hp, Int32.le_refl _, Int32.le_refl _⟩
  · refine propext ⟨fun z => absurd z.1 hp, fun z => absurd (kd_in (by rw [z.1]; decide)) hp⟩
theorem Rd.T {b p' : Nat} {J : Nat → Nat → Int32} (h : Rd e p b p' I J) : J 426 = I 426 := funext fun k => Rd.fm h 426 k rfl
theorem isW_wd {T : Nat → Int32} {k : Nat} (hk : k < 27) : isW T b (rn T e 1 b - b) k = isWd T e b k := by
  by_cases c : kd T e b = 1
  · rw [← en_1 c]
    cases h : isW T b (en T e b - b) k with
    | true => exact (decide_eq_true ⟨c, wd_eq hk h⟩).symm
    | false =>
      refine (decide_eq_false fun z => ?_).symm
      have h2 := wd_is (T := T) (e := e) (b := b) (by rw [z.2]; exact hk)
      rw [z.2, h] at h2
      cases h2
  · have e1 : rn T e 1 b = b := rn_f (Bool.eq_false_iff.mpr fun z => c ((kd_lt (isK_lt z)).trans (isK_kc z)))
    have := wLen_pos k hk
    rw [e1, show isWd T e b k = false from decide_eq_false fun z => c z.1]
    exact decide_eq_false fun z => by have := z.1; omega
theorem h_isAt (hq : Pp e p I) {x y : Int32} : SpE S m_X12_isAt 12 [.ref 420, .int x, .int y] (hp I L w1 w2 t) (some (.int (bI (atB (I 426) e p x y)))) (hp I L w1 w2 t) := by
  obtain ⟨h1, h2, h3, h4⟩ := hq
  refine SpE_of ok_X12_isAt rfl rfl ?_
  show AW S m_X12_isAt 12 _ _ 0 0 0 [some (.ref 420), some (.int x), some (.int y)] [] (hp I L w1 w2 t)
  have no : ¬ (p < e ∧ x ≤ I 426 p ∧ I 426 p ≤ y) → AW S m_X12_isAt 12 (fun v h' => v = some (.int (bI (atB (I 426) e p x y))) ∧ h' = hp I L w1 w2 t) (fun _ _ => False) 0 0 41 [some (.ref 420), some (.int x), some (.int y)] [] (hp I L w1 w2 t) := by
    intro hn
    refine a_s rfl rfl ?_
    refine a_zret rfl rfl rfl ⟨?_, rfl⟩
    rw [show atB (I 426) e p x y = false from decide_eq_false hn]
    rfl
  refine a_l0 rfl rfl rfl ?_
  refine a_geti rfl gfX12_81_12 rfl ?_
  refine a_top (y := nI p) (h1) ?_
  refine a_l0 rfl rfl rfl ?_
  refine a_geti rfl gfX12_84_12 rfl ?_
  refine a_top (y := nI e) (h2) ?_
  refine a_ic_ge rfl (fun c => no fun z => absurd (nI_ge_of c (by omega) (by omega)) (Nat.not_le.mpr z.1)) (fun c => ?_)
  have hlt : p < e := nI_lt_of c (by omega) (by omega)
  refine a_l0 rfl rfl rfl ?_
  refine a_getq rfl gfX12_29_12 rfl (rfl) ?_
  refine a_l0 rfl rfl rfl ?_
  refine a_geti rfl gfX12_81_12 rfl ?_
  refine a_top (y := nI p) (h1) ?_
  refine a_baldv (v := I 426 p) rfl (n := 400) rfl (inI_nI (by omega) (by omega)) (by rw [nI_clamp (by omega)]) ?_
  refine a_l1 rfl rfl rfl ?_
  refine a_ic_lt rfl (fun c => no fun z => absurd c (Int32.not_lt.mpr z.2.1)) (fun c1 => ?_)
  refine a_l0 rfl rfl rfl ?_
  refine a_getq rfl gfX12_29_12 rfl (rfl) ?_
  refine a_l0 rfl rfl rfl ?_
  refine a_geti rfl gfX12_81_12 rfl ?_
  refine a_top (y := nI p) (h1) ?_
  refine a_baldv (v := I 426 p) rfl (n := 400) rfl (inI_nI (by omega) (by omega)) (by rw [nI_clamp (by omega)]) ?_
  refine a_l2 rfl rfl rfl ?_
  refine a_ic_gt rfl (fun c => no fun z => absurd c (Int32.not_lt.mpr z.2.2)) (fun c2 => ?_)
  refine a_s rfl rfl ?_
  refine a_goto rfl ?_
  refine a_zret rfl rfl rfl ⟨?_, rfl⟩
  rw [show atB (I 426) e p x y = true from decide_eq_true ⟨hlt, Int32.not_lt.mp c1, Int32.not_lt.mp c2⟩]
  rfl
theorem h_blanks (hq : Pp e p I) : Sp S m_X12_blanks 13 0 0 [.ref 420] (hp I L w1 w2 t) (fun v h' => v = none ∧ ∃ J, h' = hp J L w1 w2 t ∧ Rd e p (rn (I 426) e 4 p) (rn (I 426) e 4 p) I J) nX := by
  refine Sp_of ok_X12_blanks rfl rfl ?_
  show AW S m_X12_blanks 13 _ _ 0 0 0 [some (.ref 420)] [] (hp I L w1 w2 t)
  refine a_inv (n := e - p) (fun m ls h => ls = [some (.ref 420)] ∧ ∃ J p', h = hp J L w1 w2 t ∧ Fm sR I J ∧ p ≤ p' ∧ Pp e p' J ∧ rn (I 426) e 4 p = rn (I 426) e 4 p' ∧ m = e - p') ⟨rfl, I, p, rfl, Fm.rf, Nat.le_refl _, hq, rfl, rfl⟩ ?_
  rintro m _ _ ⟨rfl, J, p', rfl, f, hpp, hq', hr, hm⟩ ih
  have eT : J 426 = I 426 := funext fun k => f 426 k rfl
  refine a_l0 rfl rfl rfl ?_
  refine a_s rfl rfl ?_
  refine a_s rfl rfl ?_
  refine a_eV1 rfl lX12_87 mo_X12_isAt (h_isAt hq') rfl rfl rfl ⟨12, _, rfl, rfl, rfl⟩ rfl ?_
  refine a_top (y := bI (isK (I 426) e 4 p')) (by rw [eT]; exact congrArg bI at_b) ?_
  cases c : isK (I 426) e 4 p' with
  | false =>
    refine a_if_eq rfl (fun _ => ?_) (fun z => absurd rfl z)
    rw [hr, rn_f c]
    refine a_l0 rfl rfl rfl ?_
    refine a_l0 rfl rfl rfl ?_
    refine a_geti rfl gfX12_81_12 rfl ?_
    refine a_top (y := nI p') (Pp.pu hq') ?_
    refine a_puti rfl pfX12_91_12 rfl ?_
    exact a_vret rfl rfl ⟨rfl, _, rfl, Fm.up f rfl, hpp, Nat.le_refl _, up2_at, Pp.bg hq'⟩
  | true =>
    refine a_if_eq rfl (fun z => absurd z (by decide)) (fun _ => ?_)
    have hb' := isK_lt c
    refine a_l0 rfl rfl rfl ?_
    refine a_s rfl rfl ?_
    refine a_geti rfl gfX12_81_12 rfl ?_
    refine a_top (y := nI p') (Pp.pu hq') ?_
    refine a_s rfl rfl ?_
    refine a_s rfl rfl ?_
    refine a_top (y := nI (p' + 1)) ((nI_succ _).symm) ?_
    refine a_puti rfl pfX12_81_12 rfl ?_
    refine a_goto rfl ?_
    exact ih (e - (p' + 1)) _ _ (by omega) ⟨rfl, _, p' + 1, rfl, Fm.up f rfl, by omega, Pp.to hq' hb', hr.trans (rn_t c), rfl⟩
theorem h_letters (hq : Pp e p I) : Sp S m_X12_letters 14 0 0 [.ref 420] (hp I L w1 w2 t) (fun v h' => v = none ∧ ∃ J, h' = hp J L w1 w2 t ∧ Rd e p (rn (I 426) e 4 p) (rn (I 426) e 1 (rn (I 426) e 4 p)) I J) nX := by
  refine Sp_of ok_X12_letters rfl rfl ?_
  show AW S m_X12_letters 14 _ _ 0 0 0 [some (.ref 420)] [] (hp I L w1 w2 t)
  refine a_l0 rfl rfl rfl ?_
  refine a_gV rfl lX12_94 mo_X12_blanks (h_blanks hq) rfl rfl rfl ⟨12, _, rfl, rfl, rfl⟩ rfl (fun v' h' hv => ?_)
  obtain ⟨rfl, J1, rfl, h1⟩ := hv
  generalize rn (I 426) e 4 p = b at h1 ⊢
  refine a_inv (n := e - b) (fun m ls h => ls = [some (.ref 420)] ∧ ∃ J p', h = hp J L w1 w2 t ∧ Rd e p b p' I J ∧ rn (I 426) e 1 b = rn (I 426) e 1 p' ∧ m = e - p') ⟨rfl, J1, b, rfl, h1, rfl, rfl⟩ ?_
  rintro m _ _ ⟨rfl, J, p', rfl, h, hr, hm⟩ ih
  refine a_l0 rfl rfl rfl ?_
  refine a_s rfl rfl ?_
  refine a_s rfl rfl ?_
  refine a_eV1 rfl lX12_87 mo_X12_isAt (h_isAt (Rd.pp h)) rfl rfl rfl ⟨12, _, rfl, rfl, rfl⟩ rfl ?_
  refine a_top (y := bI (isK (I 426) e 1 p')) (by rw [Rd.T h]; exact congrArg bI at_l) ?_
  cases c : isK (I 426) e 1 p' with
  | false =>
    refine a_if_eq rfl (fun _ => ?_) (fun z => absurd rfl z)
    rw [hr, rn_f c]
    exact a_vret rfl rfl ⟨rfl, _, rfl, h⟩
  | true =>
    refine a_if_eq rfl (fun z => absurd z (by decide)) (fun _ => ?_)
    have hb' := isK_lt c
    refine a_l0 rfl rfl rfl ?_
    refine a_s rfl rfl ?_
    refine a_geti rfl gfX12_81_12 rfl ?_
    refine a_top (y := nI p') (Pp.pu (Rd.pp h)) ?_
    refine a_s rfl rfl ?_
    refine a_s rfl rfl ?_
    refine a_top (y := nI (p' + 1)) ((nI_succ _).symm) ?_
    refine a_puti rfl pfX12_81_12 rfl ?_
    refine a_goto rfl ?_
    exact ih (e - (p' + 1)) _ _ (by omega) ⟨rfl, _, p' + 1, rfl, Rd.up h hb', hr.trans (rn_t c), rfl⟩
theorem h_isWord {k : Nat} (hw : WdS S) (hk : k < 27) (h12 : I 420 12 = nI b) (hbp : b ≤ p) (hq : Pp e p I) : SpE S m_X12_isWord 16 [.ref 420, .ref (130 + k)] (hp I L w1 w2 t) (some (.int (bI (isW (I 426) b (p - b) k)))) (hp I L w1 w2 t) := by
  obtain ⟨h1, h2, h3, h4⟩ := hq
  have hl1 := wLen_pos k hk
  have hl2 := wLen_lt k hk
  refine SpE_of ok_X12_isWord rfl rfl ?_
  show AW S m_X12_isWord 16 _ _ 0 0 0 [some (.ref 420), some (.ref (130 + k)), none, none] [] (hp I L w1 w2 t)
  have key : ∀ z : Bool, (z = true ↔ p - b = wLen k) → AW S m_X12_isWord 16 (fun v h' => v = some (.int (bI (isW (I 426) b (p - b) k))) ∧ h' = hp I L w1 w2 t) (fun _ _ => False) 0 0 21 [some (.ref 420), some (.ref (130 + k)), none, none] [.int (bI z)] (hp I L w1 w2 t) := by
    intro z hz
    refine a_s2 rfl rfl rfl rfl rfl rfl ?_
    refine a_s rfl rfl ?_
    refine a_s3 rfl rfl rfl rfl rfl rfl ?_
    refine a_inv (n := wLen k + 1) (fun m ls h => ∃ z i, ls = [some (.ref 420), some (.ref (130 + k)), some (.int (bI z)), some (.int (nI i))] ∧ h = hp I L w1 w2 t ∧ i ≤ wLen k ∧ m = wLen k + 1 - i ∧ (z = true ↔ (p - b = wLen k ∧ ∀ q, q < i → I 426 (b + q) = wC k q))) ⟨z, 0, rfl, rfl, Nat.zero_le _, rfl, hz.trans ⟨fun y => ⟨y, fun q hq => absurd hq (Nat.not_lt_zero _)⟩, fun y => y.1⟩⟩ ?_
    rintro m _ _ ⟨z, i, rfl, rfl, hi, hm, hz⟩ ih
    have out : isW (I 426) b (p - b) k = z → AW S m_X12_isWord 16 (fun v h' => v = some (.int (bI (isW (I 426) b (p - b) k))) ∧ h' = hp I L w1 w2 t) (fun _ _ => False) 0 0 67 [some (.ref 420), some (.ref (130 + k)), some (.int (bI z)), some (.int (nI i))] [] (hp I L w1 w2 t) := by
      intro ez
      refine a_l2 rfl rfl rfl ?_
      exact a_zret rfl rfl (bI_nar _) ⟨by rw [ez], rfl⟩
    refine a_l2 rfl rfl rfl ?_
    cases z with
    | false =>
      refine a_if_eq rfl (fun _ => out (decide_eq_false fun y => ?_)) (fun y => absurd rfl y)
      have := hz.mpr ⟨y.1, fun q hq => y.2 q (by omega)⟩
      cases this
    | true =>
    refine a_if_eq rfl (fun y => absurd y (by decide)) (fun _ => ?_)
    obtain ⟨hpb, hq⟩ := hz.mp rfl
    refine a_l3 rfl rfl rfl ?_
    refine a_l1 rfl rfl rfl ?_
    refine a_eK1 rfl lX12_97 mo_J0_length_8abf5 (q_strlen hw hk) rfl rfl rfl (hw.so hk) rfl ?_
    refine a_ic_ge rfl (fun c2 => ?_) (fun c2 => ?_)
    · have := nI_ge_of c2 (by omega) hl2
      exact out (decide_eq_true ⟨hpb, fun q hq2 => hq q (by omega)⟩)
    have hjl : i < wLen k := nI_lt_of c2 (by omega) hl2
    refine a_l0 rfl rfl rfl ?_
    refine a_getq rfl gfX12_29_12 rfl (rfl) ?_
    refine a_l0 rfl rfl rfl ?_
    refine a_geti rfl gfX12_91_12 rfl ?_
    refine a_top (y := nI b) (h12) ?_
    refine a_l3 rfl rfl rfl ?_
    refine a_s rfl rfl ?_
    refine a_top (y := nI (b + i)) (nI_addl _ _) ?_
    refine a_baldv (v := I 426 (b + i)) rfl (n := 400) rfl (inI_nI (by omega) (by omega)) (by rw [nI_clamp (by omega)]) ?_
    refine a_l1 rfl rfl rfl ?_
    refine a_l3 rfl rfl rfl ?_
    refine a_eK1 rfl lX12_102 mo_J0_charAt_5068e (q_charAt hw hk hjl) rfl rfl rfl (hw.so hk) rfl ?_
    have back : ∀ z' : Bool, (z' = true ↔ I 426 (b + i) = wC k i) → AW S m_X12_isWord 16 (fun v h' => v = some (.int (bI (isW (I 426) b (p - b) k))) ∧ h' = hp I L w1 w2 t) (fun _ _ => False) 0 0 60 [some (.ref 420), some (.ref (130 + k)), some (.int (bI true)), some (.int (nI i))] [.int (bI z')] (hp I L w1 w2 t) := by
      intro z' hz'
      refine a_s2 rfl rfl rfl rfl rfl rfl ?_
      refine a_iv3 (y := nI (i + 1)) rfl rfl rfl ((nI_succ i).symm) ?_
      refine a_goto rfl ?_
      refine ih (wLen k + 1 - (i + 1)) _ _ (by omega) ⟨z', i + 1, rfl, rfl, by omega, rfl, ?_⟩
      refine hz'.trans ⟨fun y => ⟨hpb, fun q hq2 => ?_⟩, fun y => y.2 i (Nat.lt_succ_self i)⟩
      by_cases cq : q = i
      · rw [cq]
        exact y
      · exact hq q (by omega)
    refine a_ic_ne rfl (fun c3 => ?_) (fun c3 => ?_)
    · refine a_s rfl rfl ?_
      exact back false ⟨fun y => (by cases y), fun y => absurd y c3⟩
    · refine a_s rfl rfl ?_
      refine a_goto rfl ?_
      exact back true ⟨fun _ => c3, fun _ => rfl⟩
  refine a_l0 rfl rfl rfl ?_
  refine a_geti rfl gfX12_81_12 rfl ?_
  refine a_top (y := nI p) (h1) ?_
  refine a_l0 rfl rfl rfl ?_
  refine a_geti rfl gfX12_91_12 rfl ?_
  refine a_top (y := nI b) (h12) ?_
  refine a_s rfl rfl ?_
  refine a_top (y := nI (p - b)) (nI_sub hbp) ?_
  refine a_l1 rfl rfl rfl ?_
  refine a_eK1 rfl lX12_97 mo_J0_length_8abf5 (q_strlen hw hk) rfl rfl rfl (hw.so hk) rfl ?_
  refine a_ic_ne rfl (fun c => ?_) (fun c => ?_)
  · refine a_s rfl rfl ?_
    exact key false ⟨fun z => (by cases z), fun z => absurd (congrArg nI z) c⟩
  · refine a_s rfl rfl ?_
    refine a_goto rfl ?_
    exact key true ⟨fun _ => nI_inj (by omega) hl2 c, fun _ => rfl⟩
theorem h_passes {k : Nat} (hw : WdS S) (hk : k < 27) (hq : Pp e p I) (hb : rn (I 426) e 4 p = b) : Sp S m_X12_passes 17 0 0 [.ref 420, .ref (130 + k)] (hp I L w1 w2 t) (fun v h' => v = some (.int (bI (isWd (I 426) e b k))) ∧ ∃ J, h' = hp J L w1 w2 t ∧ Rd e p b (if isWd (I 426) e b k = true then en (I 426) e b else b) I J) nX := by
  refine Sp_of ok_X12_passes rfl rfl ?_
  show AW S m_X12_passes 17 _ _ 0 0 0 [some (.ref 420), some (.ref (130 + k))] [] (hp I L w1 w2 t)
  refine a_l0 rfl rfl rfl ?_
  refine a_gV rfl lX12_106 mo_X12_letters (h_letters hq) rfl rfl rfl ⟨12, _, rfl, rfl, rfl⟩ rfl (fun v' h' hv => ?_)
  obtain ⟨rfl, J, rfl, h⟩ := hv
  rw [hb] at h
  refine a_l0 rfl rfl rfl ?_
  refine a_l1 rfl rfl rfl ?_
  refine a_eV1 rfl lX12_109 mo_X12_isWord (h_isWord hw hk (Rd.be h) (Rd.bp h) (Rd.pp h)) rfl rfl rfl ⟨12, _, rfl, rfl, rfl⟩ rfl ?_
  refine a_top (y := bI (isWd (I 426) e b k)) (by rw [Rd.T h]; exact congrArg bI (isW_wd hk)) ?_
  cases c : isWd (I 426) e b k with
  | false =>
    refine a_if_eq rfl (fun _ => ?_) (fun z => absurd rfl z)
    refine a_l0 rfl rfl rfl ?_
    refine a_l0 rfl rfl rfl ?_
    refine a_geti rfl gfX12_91_12 rfl ?_
    refine a_top (y := nI b) (Rd.be h) ?_
    refine a_puti rfl pfX12_81_12 rfl ?_
    refine a_s rfl rfl ?_
    exact a_zret rfl rfl rfl ⟨rfl, _, rfl, Rd.rs h⟩
  | true =>
    refine a_if_eq rfl (fun z => absurd z (by decide)) (fun _ => ?_)
    refine a_s rfl rfl ?_
    refine a_zret rfl rfl rfl ⟨rfl, J, rfl, ?_⟩
    rw [if_pos rfl, en_1 (of_decide_eq_true c).1]
    exact h
theorem h_sign {c : Nat} (hbt : BtT (I 426)) (hc : c ∈ [40, 41, 43, 59, 60, 62]) (hq : Pp e p I) (hb : rn (I 426) e 4 p = b) : Sp S m_X12_sign 14 0 0 [.ref 420, .int (nI c)] (hp I L w1 w2 t) (fun v h' => v = some (.int (bI (sg (I 426) e b (nI c)))) ∧ ∃ J, h' = hp J L w1 w2 t ∧ Rd e p b (if sg (I 426) e b (nI c) = true then en (I 426) e b else b) I J) nX := by
  have he4 := Pp.e4 hq
  refine Sp_of ok_X12_sign rfl rfl ?_
  show AW S m_X12_sign 14 _ _ 0 0 0 [some (.ref 420), some (.int (nI c))] [] (hp I L w1 w2 t)
  refine a_l0 rfl rfl rfl ?_
  refine a_gV rfl lX12_94 mo_X12_blanks (h_blanks hq) rfl rfl rfl ⟨12, _, rfl, rfl, rfl⟩ rfl (fun v' h' hv => ?_)
  obtain ⟨rfl, J, rfl, h⟩ := hv
  rw [hb] at h
  refine a_l0 rfl rfl rfl ?_
  refine a_l1 rfl rfl rfl ?_
  refine a_l1 rfl rfl rfl ?_
  refine a_eV1 rfl lX12_87 mo_X12_isAt (h_isAt (Rd.pp h)) rfl rfl rfl ⟨12, _, rfl, rfl, rfl⟩ rfl ?_
  refine a_top (y := bI (sg (I 426) e b (nI c))) (by rw [Rd.T h]; exact congrArg bI (at_s hbt he4 hc)) ?_
  cases cs : sg (I 426) e b (nI c) with
  | true =>
    refine a_if_ne rfl (fun _ => ?_) (fun z => absurd z (by decide))
    refine a_l0 rfl rfl rfl ?_
    refine a_s rfl rfl ?_
    refine a_geti rfl gfX12_81_12 rfl ?_
    refine a_top (y := nI b) (Pp.pu (Rd.pp h)) ?_
    refine a_s rfl rfl ?_
    refine a_s rfl rfl ?_
    refine a_top (y := nI (b + 1)) ((nI_succ _).symm) ?_
    refine a_puti rfl pfX12_81_12 rfl ?_
    refine a_s rfl rfl ?_
    refine a_zret rfl rfl rfl ⟨rfl, _, rfl, ?_⟩
    rw [if_pos rfl, en_3 (of_decide_eq_true cs).1]
    exact Rd.up h (sg_lt cs)
  | false =>
    refine a_if_ne rfl (fun z => absurd rfl z) (fun _ => ?_)
    refine a_s rfl rfl ?_
    exact a_zret rfl rfl rfl ⟨rfl, J, rfl, h⟩
theorem h_number (hq : Pp e p I) (hb : rn (I 426) e 4 p = b) {x y : Int32} (h0 : 0 ≤ x) : Sp S m_X12_number 14 0 0 [.ref 420, .int x, .int y] (hp I L w1 w2 t) (fun v h' => v = some (.int (nm (I 426) e b x y)) ∧ ∃ J, h' = hp J L w1 w2 t ∧ Rd e p b (rn (I 426) e 2 b) I J) nX := by
  refine Sp_of ok_X12_number rfl rfl ?_
  show AW S m_X12_number 14 _ _ 0 0 0 [some (.ref 420), some (.int x), some (.int y), none] [] (hp I L w1 w2 t)
  refine a_l0 rfl rfl rfl ?_
  refine a_gV rfl lX12_94 mo_X12_blanks (h_blanks hq) rfl rfl rfl ⟨12, _, rfl, rfl, rfl⟩ rfl (fun v' h' hv => ?_)
  obtain ⟨rfl, J1, rfl, h1⟩ := hv
  rw [hb] at h1
  refine a_s rfl rfl ?_
  refine a_s3 rfl rfl rfl rfl rfl rfl ?_
  refine a_inv (n := e - b) (fun m ls h => ∃ J p', ls = [some (.ref 420), some (.int x), some (.int y), some (.int (nuF (I 426) b (if p' - b < 3 then p' - b else 3)))] ∧ h = hp J L w1 w2 t ∧ Rd e p b p' I J ∧ rn (I 426) e 2 b = rn (I 426) e 2 p' ∧ m = e - p') ⟨J1, b, by rw [Nat.sub_self]; rfl, rfl, h1, rfl, rfl⟩ ?_
  rintro m _ _ ⟨J, p', rfl, rfl, h, hr, hm⟩ ih
  have hbp := Rd.bp h
  have hpe := Pp.le (Rd.pp h)
  have he4 := Pp.e4 (Rd.pp h)
  refine a_l0 rfl rfl rfl ?_
  refine a_s rfl rfl ?_
  refine a_s rfl rfl ?_
  refine a_eV1 rfl lX12_87 mo_X12_isAt (h_isAt (Rd.pp h)) rfl rfl rfl ⟨12, _, rfl, rfl, rfl⟩ rfl ?_
  refine a_top (y := bI (isK (I 426) e 2 p')) (by rw [Rd.T h]; exact congrArg bI at_d) ?_
  cases ck : isK (I 426) e 2 p' with
  | false =>
    refine a_if_eq rfl (fun _ => ?_) (fun z => absurd rfl z)
    rw [rn_f ck] at hr
    have no : nm (I 426) e b x y = -1 → AW S m_X12_number 14 (fun v h' => v = some (.int (nm (I 426) e b x y)) ∧ ∃ J, h' = hp J L w1 w2 t ∧ Rd e p b (rn (I 426) e 2 b) I J) nX 0 0 99 [some (.ref 420), some (.int x), some (.int y), some (.int (nuF (I 426) b (if p' - b < 3 then p' - b else 3)))] [] (hp J L w1 w2 t) := by
      intro hn
      refine a_s rfl rfl ?_
      refine a_goto rfl ?_
      refine a_iret rfl rfl ⟨by rw [hn], J, rfl, ?_⟩
      rw [hr]
      exact h
    refine a_l0 rfl rfl rfl ?_
    refine a_geti rfl gfX12_81_12 rfl ?_
    refine a_top (y := nI p') (Pp.pu (Rd.pp h)) ?_
    refine a_l0 rfl rfl rfl ?_
    refine a_geti rfl gfX12_91_12 rfl ?_
    refine a_top (y := nI b) (Rd.be h) ?_
    refine a_ic_eq rfl (fun c => no (if_neg fun z => ?_)) (fun cne => ?_)
    · have c := nI_inj (by omega) (by omega) c
      have := rn_t (kd_isK (by decide) z.1)
      have h9 := rn_ge (T := I 426) (e := e) (k := 2) (p := b + 1)
      omega
    have hlt : b < p' := by
      rcases Nat.lt_or_ge b p' with g | g
      · exact g
      · exact absurd (congrArg nI (show p' = b by omega)) cne
    have hk2 : kd (I 426) e b = 2 := by
      have h9 := rn_all (T := I 426) (e := e) (k := 2) (p := b) (q := b) (Nat.le_refl _) (by omega)
      exact (kd_lt (isK_lt h9)).trans (isK_kc h9)
    have een : en (I 426) e b = p' := (en_2 hk2).trans hr
    refine a_l0 rfl rfl rfl ?_
    refine a_geti rfl gfX12_81_12 rfl ?_
    refine a_top (y := nI p') (Pp.pu (Rd.pp h)) ?_
    refine a_l0 rfl rfl rfl ?_
    refine a_geti rfl gfX12_91_12 rfl ?_
    refine a_top (y := nI b) (Rd.be h) ?_
    refine a_s rfl rfl ?_
    refine a_top (y := nI (p' - b)) (nI_sub hbp) ?_
    refine a_s rfl rfl ?_
    refine a_ic_gt rfl (fun c => no (if_neg fun z => ?_)) (fun c3 => ?_)
    · have c := (nI_lt_iff (a := 3) (b := p' - b) (by decide) (by omega)).mp c
      have z2 := z.2.1
      rw [vl_2 hk2, een, if_pos c] at z2
      exact absurd (Int32.le_trans h0 z2) (by decide)
    have h3 : p' - b ≤ 3 := Nat.not_lt.mp fun z => c3 ((nI_lt_iff (a := 3) (b := p' - b) (by decide) (by omega)).mpr z)
    have ev : vl (I 426) e b = nuF (I 426) b (if p' - b < 3 then p' - b else 3) := by
      rw [vl_2 hk2, een, if_neg (by omega)]
      by_cases c : p' - b < 3
      · rw [if_pos c]
      · rw [if_neg c, show p' - b = 3 by omega]
    rw [← ev]
    rw [← ev] at no
    refine a_l3 rfl rfl rfl ?_
    refine a_l1 rfl rfl rfl ?_
    refine a_ic_lt rfl (fun c => no (if_neg fun z => absurd c (Int32.not_lt.mpr z.2.1))) (fun c1 => ?_)
    refine a_l3 rfl rfl rfl ?_
    refine a_l2 rfl rfl rfl ?_
    refine a_ic_le rfl (fun c2 => ?_) (fun c2 => no (if_neg fun z => c2 z.2.2))
    refine a_l3 rfl rfl rfl ?_
    refine a_iret rfl rfl ⟨?_, J, rfl, ?_⟩
    · rw [show nm (I 426) e b x y = vl (I 426) e b from if_pos ⟨hk2, Int32.not_lt.mp c1, c2⟩]
    · rw [hr]
      exact h
  | true =>
    refine a_if_eq rfl (fun z => absurd z (by decide)) (fun _ => ?_)
    have hb' := isK_lt ck
    have back : ∀ a' : Int32, a' = nuF (I 426) b (if p' + 1 - b < 3 then p' + 1 - b else 3) → AW S m_X12_number 14 (fun v h' => v = some (.int (nm (I 426) e b x y)) ∧ ∃ J, h' = hp J L w1 w2 t ∧ Rd e p b (rn (I 426) e 2 b) I J) nX 0 0 51 [some (.ref 420), some (.int x), some (.int y), some (.int (nuF (I 426) b (if p' - b < 3 then p' - b else 3)))] [.int a'] (hp J L w1 w2 t) := by
      intro a' ha'
      refine a_s3 rfl rfl rfl rfl rfl rfl ?_
      refine a_l0 rfl rfl rfl ?_
      refine a_s rfl rfl ?_
      refine a_geti rfl gfX12_81_12 rfl ?_
      refine a_top (y := nI p') (Pp.pu (Rd.pp h)) ?_
      refine a_s rfl rfl ?_
      refine a_s rfl rfl ?_
      refine a_top (y := nI (p' + 1)) ((nI_succ _).symm) ?_
      refine a_puti rfl pfX12_81_12 rfl ?_
      refine a_goto rfl ?_
      rw [ha']
      exact ih (e - (p' + 1)) _ _ (by omega) ⟨_, p' + 1, rfl, rfl, Rd.up h hb', hr.trans (rn_t ck), rfl⟩
    refine a_l0 rfl rfl rfl ?_
    refine a_geti rfl gfX12_81_12 rfl ?_
    refine a_top (y := nI p') (Pp.pu (Rd.pp h)) ?_
    refine a_l0 rfl rfl rfl ?_
    refine a_geti rfl gfX12_91_12 rfl ?_
    refine a_top (y := nI b) (Rd.be h) ?_
    refine a_s rfl rfl ?_
    refine a_top (y := nI (p' - b)) (nI_sub hbp) ?_
    refine a_s rfl rfl ?_
    refine a_ic_ge rfl (fun c => ?_) (fun c => ?_)
    · have h3 := nI_ge_of (b := 3) c (by omega) (by decide)
      refine a_l3 rfl rfl rfl ?_
      exact back _ (by rw [if_neg (by omega), if_neg (by omega)])
    · have h3 := nI_lt_of (b := 3) c (by omega) (by decide)
      refine a_s rfl rfl ?_
      refine a_l3 rfl rfl rfl ?_
      refine a_s rfl rfl ?_
      refine a_l0 rfl rfl rfl ?_
      refine a_getq rfl gfX12_29_12 rfl (rfl) ?_
      refine a_l0 rfl rfl rfl ?_
      refine a_geti rfl gfX12_81_12 rfl ?_
      refine a_top (y := nI p') (Pp.pu (Rd.pp h)) ?_
      refine a_baldv (v := I 426 p') rfl (n := 400) rfl (inI_nI (by omega) (by omega)) (by rw [nI_clamp (by omega), Rd.T h]) ?_
      refine a_s rfl rfl ?_
      refine a_s rfl rfl ?_
      refine a_s rfl rfl ?_
      refine a_goto rfl ?_
      refine back _ ?_
      rw [if_pos h3]
      have e1 : (if p' + 1 - b < 3 then p' + 1 - b else 3) = (p' - b) + 1 := by
        by_cases c4 : p' + 1 - b < 3
        · rw [if_pos c4]
          omega
        · rw [if_neg c4]
          omega
      rw [e1]
      show _ = nuF (I 426) b (p' - b) * 10 + I 426 (b + (p' - b)) - 48
      rw [show b + (p' - b) = p' by omega, Int32.mul_comm]
end T79g
end
section
/-! ===== the reference: parts, sums, tags, conditions, as functions (printed by program) ===== -/
section T79h
variable {S : aS} {I : Nat → Nat → Int32} {L : Nat → Nat → Int64} {w1 w2 t : Nat} {e p b n0 : Nat} {T : Nat → Int32} {o : List Int32}
set_option maxRecDepth 100000
/-- a code as the reference keeps it: its step, its number -/
def stF (x : Int32) : Int32 := if x < 1000 then 9 else if x < 2000 then x - 1000 else x - 1990
def snF (x : Int32) : Int32 := if x < 1000 then x else 0
def RowS (W : Nat → Int32) : List Int32 → Prop
  | [] => True
  | x :: r => (W (1233 + 2 * r.length) = stF x ∧ W (1233 + 2 * r.length + 1) = snF x) ∧ RowS W r
theorem RowS.eq {W W' : Nat → Int32} : ∀ {r : List Int32}, RowS W r → (∀ k, 1233 ≤ k → k < 1233 + 2 * r.length → W' k = W k) → RowS W' r := by
  intro r
  induction r with
  | nil => exact fun _ _ => trivial
  | cons x r ih =>
    intro h f
    have f : ∀ k, 1233 ≤ k → k < 1233 + 2 * (r.length + 1) → W' k = W k := f
    exact ⟨⟨(f _ (by omega) (by omega)).trans h.1.1, (f _ (by omega) (by omega)).trans h.1.2⟩, ih h.2 fun k g1 g2 => f k g1 (by omega)⟩
theorem RowS.em {J : Nat → Nat → Int32} {x y z : Int32} {r : List Int32} (h : RowS (J 421) r) (hx : x = stF z) (hy : y = snF z) : RowS (emH J r.length x y 421) (z :: r) := ⟨⟨emH_0.trans hx, emH_1.trans hy⟩, RowS.eq h fun _ _ g2 => emH_lo g2⟩
/-- from I (n0 steps) to J: at p, what is next begins at b, emitted is o -/
def Cf (T : Nat → Int32) (e n0 b : Nat) (o : List Int32) (I J : Nat → Nat → Int32) (p : Nat) : Prop := Fm (sY n0) I J ∧ J 420 13 = I 420 13 ∧ Pp e p J ∧ rn T e 4 p = b ∧ J 420 16 = nI o.length ∧ RowS (J 421) o ∧ n0 ≤ o.length
theorem Cf.pp {J : Nat → Nat → Int32} (h : Cf T e n0 b o I J p) : Pp e p J := h.2.2.1
theorem Cf.nb {J : Nat → Nat → Int32} (h : Cf T e n0 b o I J p) : rn T e 4 p = b := h.2.2.2.1
theorem Cf.st {J : Nat → Nat → Int32} (h : Cf T e n0 b o I J p) : J 420 16 = nI o.length := h.2.2.2.2.1
theorem Cf.d {J : Nat → Nat → Int32} {x : Int32} (h : Cf T e n0 b o I J p) (hd : I 420 13 = x) : J 420 13 = x := h.2.1.trans hd
theorem Cf.tt {J : Nat → Nat → Int32} (h : Cf T e n0 b o I J p) (hT : I 426 = T) : J 426 = T := (funext fun k => h.1 426 k rfl).trans hT
theorem Cf.le {J : Nat → Nat → Int32} (h : Cf T e n0 b o I J p) : b ≤ e := by
  rw [← Cf.nb h]
  exact rn_le (Pp.le (Cf.pp h))
theorem Cf.e4 {J : Nat → Nat → Int32} (h : Cf T e n0 b o I J p) : e ≤ 400 := Pp.e4 (Cf.pp h)
theorem Cf.sk {J : Nat → Nat → Int32} (h : Cf T e n0 b o I J p) : rn T e 4 b = b := by
  rw [← Cf.nb h]
  exact rn_rn
theorem Cf.rd {J K : Nat → Nat → Int32} {b2 p' b' : Nat} (h : Cf T e n0 b o I J p) (r : Rd e p b2 p' J K) (hb : rn T e 4 p' = b') : Cf T e n0 b' o I K p' := ⟨Fm.tr h.1 (Fm.mo (Rd.fm r) sR_sY), (Rd.fm r 420 13 rfl).trans h.2.1, Rd.pp r, hb, (Rd.fm r 420 16 rfl).trans h.2.2.2.2.1, by rw [Rd.w r]; exact h.2.2.2.2.2.1, h.2.2.2.2.2.2⟩
theorem Cf.em {J : Nat → Nat → Int32} {x y z : Int32} (h : Cf T e n0 b o I J p) (hx : x = stF z) (hy : y = snF z) : Cf T e n0 b (z :: o) I (emH J o.length x y) p := ⟨Fm.tr h.1 (Fm.mo emH_fm (sY_mono h.2.2.2.2.2.2)), (emH_f (by decide)).trans h.2.1, Pp.em h.2.2.1, h.2.2.2.1, up2_at, RowS.em h.2.2.2.2.2.1 hx hy, by have := h.2.2.2.2.2.2; show n0 ≤ o.length + 1; omega⟩
theorem Cf.ef {J : Nat → Nat → Int32} {x y : Int32} (h : Cf T e n0 b o I J p) : Fm (sY n0) I (emH J o.length x y) := Fm.tr h.1 (Fm.mo emH_fm (sY_mono h.2.2.2.2.2.2))
theorem Cf.cc {K J : Nat → Nat → Int32} {b' p' : Nat} {o' : List Int32} (h : Cf T e n0 b o I J p) (g : Cf T e n0 b' o' J K p') : Cf T e n0 b' o' I K p' := ⟨Fm.tr h.1 g.1, g.2.1.trans h.2.1, g.2.2⟩
theorem Cf.rf {J : Nat → Nat → Int32} (h : Cf T e n0 b o I J p) : Cf T e n0 b o J J p := ⟨Fm.rf, rfl, h.2.2⟩
theorem Cf.up13 {J : Nat → Nat → Int32} {x : Int32} (h : Cf T e n0 b o I J p) : Cf T e n0 b o (up2 J 420 13 x) (up2 J 420 13 x) p := by
  obtain ⟨-, -, g1, g2, g3, g4, g5⟩ := h
  refine ⟨Fm.rf, rfl, ?_, g2, (up2_ne (Or.inr (by decide))).trans g3, ?_, g5⟩
  · unfold Pp
    rw [up2_ne (Or.inr (by decide)), up2_ne (Or.inr (by decide))]
    exact g1
  · rw [up2_row (by decide)]
    exact g4
theorem Cf.deep {J K : Nat → Nat → Int32} {b' p' : Nat} {o' : List Int32} {x y : Int32} (h : Cf T e n0 b o I J p) (hd : I 420 13 = x) (g : Cf T e n0 b' o' (up2 J 420 13 y) K p') : Cf T e n0 b' o' I (up2 K 420 13 x) p' := by
  obtain ⟨f, -, g1, g2, g3, g4, g5⟩ := g
  refine ⟨Fm.up (Fm.tr h.1 (Fm.tr (Fm.up Fm.rf rfl) f)) rfl, up2_at.trans hd.symm, ?_, g2, (up2_ne (Or.inr (by decide))).trans g3, ?_, g5⟩
  · unfold Pp
    rw [up2_ne (Or.inr (by decide)), up2_ne (Or.inr (by decide))]
    exact g1
  · rw [up2_row (by decide)]
    exact g4
/-- read as the function says -/
def QF (T : Nat → Int32) (e n0 : Nat) (r : PR) (I : Nat → Nat → Int32) (L : Nat → Nat → Int64) (w1 w2 t : Nat) : Option Value → aH → Prop := fun v h' => v = some (.int (bI r.1)) ∧ ∃ J p, h' = hp J L w1 w2 t ∧ (r.1 = true → Cf T e n0 r.2.1 r.2.2 I J p) ∧ (r.1 = false → Fm (sY n0) I J ∧ J 420 12 = nI r.2.1)
theorem QF.yes {J : Nat → Nat → Int32} (h : Cf T e n0 b o I J p) : QF T e n0 (true, b, o) I L w1 w2 t (some (.int (bI true))) (hp J L w1 w2 t) := ⟨rfl, J, p, rfl, fun _ => h, fun z => by cases z⟩
theorem QF.no {J : Nat → Nat → Int32} (f : Fm (sY n0) I J) (hb : J 420 12 = nI b) : QF T e n0 (false, b, o) I L w1 w2 t (some (.int (bI false))) (hp J L w1 w2 t) := ⟨rfl, J, 0, rfl, fun z => (by cases z), fun _ => ⟨f, hb⟩⟩
theorem Cf.no {J K : Nat → Nat → Int32} {b1 p1 : Nat} {o1 : List Int32} (h : Cf T e n0 b1 o1 I J p1) (f : Fm (sY n0) J K) (hb : K 420 12 = nI b) : QF T e n0 (false, b, o) I L w1 w2 t (some (.int (bI false))) (hp K L w1 w2 t) := QF.no (Fm.tr h.1 f) hb
theorem nx_of {b : Nat} : rn T e 4 (en T e b) = nx T e b := rfl
theorem atomR_gdo {D : Nat} {b : Nat} {o : List Int32} (h : b ≤ e) : Gd e b o (atomR T e D b o) := atomR_gd D b o h
theorem seqA_gd {D : Nat} {b : Nat} {o : List Int32} (h : b ≤ e) : Gd e b o (seqP T e (atomR T e D) 20 2004 b o) := seqP_gd (fun b o h => atomR_gd D b o h) h
/-- a part's number among the parts -/
def wpF (i : Nat) : Int32 := if i = 3 then 0 else if i = 24 then 1 else if i = 6 then 2 else if i = 7 then 3 else if i = 25 then 4 else if i = 26 then 5 else if i = 13 then 6 else -1
theorem wp_ok : ∀ i, i < 28 → (wpF i = -1 ∧ wPa i = -1) ∨ (¬ wpF i < 0 ∧ ¬ wPa i = -1 ∧ wpF i = stF (wPa i) ∧ 0 = snF (wPa i)) := by decide +kernel
theorem h_wordOfPart (hw : WdS S) (h12 : I 420 12 = nI b) (hbp : b ≤ p) (hq : Pp e p I) (hp1 : p = rn (I 426) e 1 b) : SpE S m_X12_wordOfPart 17 [.ref 420] (hp I L w1 w2 t) (some (.int (if kd (I 426) e b = 1 then wpF (wd (I 426) e b) else -1))) (hp I L w1 w2 t) := by
  have hi : ∀ k, k < 27 → isW (I 426) b (p - b) k = isWd (I 426) e b k := fun k hk => by
    rw [hp1]
    exact isW_wd hk
  refine SpE_of ok_X12_wordOfPart rfl rfl ?_
  show AW S m_X12_wordOfPart 17 _ _ 0 0 0 [some (.ref 420)] [] (hp I L w1 w2 t)
  refine a_l0 rfl rfl rfl ?_
  refine a_ldcs (q := 130 + 3) rfl (hw.ld (i := 3) (by decide)) ?_
  refine a_eV1 rfl lX12_109 mo_X12_isWord (h_isWord (k := 3) hw (by decide) h12 hbp hq) rfl rfl rfl ⟨12, _, rfl, rfl, rfl⟩ rfl ?_
  refine a_top (y := bI (isWd (I 426) e b 3)) (congrArg bI (hi 3 (by decide))) ?_
  cases c3 : isWd (I 426) e b 3 with
  | true =>
    refine a_if_eq rfl (fun z => absurd z (by decide)) (fun _ => ?_)
    refine a_s rfl rfl ?_
    refine a_iret rfl rfl ⟨?_, rfl⟩
    rw [if_pos (of_decide_eq_true c3).1, (of_decide_eq_true c3).2]
    rfl
  | false =>
  refine a_if_eq rfl (fun _ => ?_) (fun z => absurd rfl z)
  refine a_l0 rfl rfl rfl ?_
  refine a_ldcs (q := 130 + 24) rfl (hw.ld (i := 24) (by decide)) ?_
  refine a_eV1 rfl lX12_109 mo_X12_isWord (h_isWord (k := 24) hw (by decide) h12 hbp hq) rfl rfl rfl ⟨12, _, rfl, rfl, rfl⟩ rfl ?_
  refine a_top (y := bI (isWd (I 426) e b 24)) (congrArg bI (hi 24 (by decide))) ?_
  cases c24 : isWd (I 426) e b 24 with
  | true =>
    refine a_if_eq rfl (fun z => absurd z (by decide)) (fun _ => ?_)
    refine a_s rfl rfl ?_
    refine a_iret rfl rfl ⟨?_, rfl⟩
    rw [if_pos (of_decide_eq_true c24).1, (of_decide_eq_true c24).2]
    rfl
  | false =>
  refine a_if_eq rfl (fun _ => ?_) (fun z => absurd rfl z)
  refine a_l0 rfl rfl rfl ?_
  refine a_ldcs (q := 130 + 6) rfl (hw.ld (i := 6) (by decide)) ?_
  refine a_eV1 rfl lX12_109 mo_X12_isWord (h_isWord (k := 6) hw (by decide) h12 hbp hq) rfl rfl rfl ⟨12, _, rfl, rfl, rfl⟩ rfl ?_
  refine a_top (y := bI (isWd (I 426) e b 6)) (congrArg bI (hi 6 (by decide))) ?_
  cases c6 : isWd (I 426) e b 6 with
  | true =>
    refine a_if_eq rfl (fun z => absurd z (by decide)) (fun _ => ?_)
    refine a_s rfl rfl ?_
    refine a_iret rfl rfl ⟨?_, rfl⟩
    rw [if_pos (of_decide_eq_true c6).1, (of_decide_eq_true c6).2]
    rfl
  | false =>
  refine a_if_eq rfl (fun _ => ?_) (fun z => absurd rfl z)
  refine a_l0 rfl rfl rfl ?_
  refine a_ldcs (q := 130 + 7) rfl (hw.ld (i := 7) (by decide)) ?_
  refine a_eV1 rfl lX12_109 mo_X12_isWord (h_isWord (k := 7) hw (by decide) h12 hbp hq) rfl rfl rfl ⟨12, _, rfl, rfl, rfl⟩ rfl ?_
  refine a_top (y := bI (isWd (I 426) e b 7)) (congrArg bI (hi 7 (by decide))) ?_
  cases c7 : isWd (I 426) e b 7 with
  | true =>
    refine a_if_eq rfl (fun z => absurd z (by decide)) (fun _ => ?_)
    refine a_s rfl rfl ?_
    refine a_iret rfl rfl ⟨?_, rfl⟩
    rw [if_pos (of_decide_eq_true c7).1, (of_decide_eq_true c7).2]
    rfl
  | false =>
  refine a_if_eq rfl (fun _ => ?_) (fun z => absurd rfl z)
  refine a_l0 rfl rfl rfl ?_
  refine a_ldcs (q := 130 + 25) rfl (hw.ld (i := 25) (by decide)) ?_
  refine a_eV1 rfl lX12_109 mo_X12_isWord (h_isWord (k := 25) hw (by decide) h12 hbp hq) rfl rfl rfl ⟨12, _, rfl, rfl, rfl⟩ rfl ?_
  refine a_top (y := bI (isWd (I 426) e b 25)) (congrArg bI (hi 25 (by decide))) ?_
  cases c25 : isWd (I 426) e b 25 with
  | true =>
    refine a_if_eq rfl (fun z => absurd z (by decide)) (fun _ => ?_)
    refine a_s rfl rfl ?_
    refine a_iret rfl rfl ⟨?_, rfl⟩
    rw [if_pos (of_decide_eq_true c25).1, (of_decide_eq_true c25).2]
    rfl
  | false =>
  refine a_if_eq rfl (fun _ => ?_) (fun z => absurd rfl z)
  refine a_l0 rfl rfl rfl ?_
  refine a_ldcs (q := 130 + 26) rfl (hw.ld (i := 26) (by decide)) ?_
  refine a_eV1 rfl lX12_109 mo_X12_isWord (h_isWord (k := 26) hw (by decide) h12 hbp hq) rfl rfl rfl ⟨12, _, rfl, rfl, rfl⟩ rfl ?_
  refine a_top (y := bI (isWd (I 426) e b 26)) (congrArg bI (hi 26 (by decide))) ?_
  cases c26 : isWd (I 426) e b 26 with
  | true =>
    refine a_if_eq rfl (fun z => absurd z (by decide)) (fun _ => ?_)
    refine a_s rfl rfl ?_
    refine a_iret rfl rfl ⟨?_, rfl⟩
    rw [if_pos (of_decide_eq_true c26).1, (of_decide_eq_true c26).2]
    rfl
  | false =>
  refine a_if_eq rfl (fun _ => ?_) (fun z => absurd rfl z)
  refine a_l0 rfl rfl rfl ?_
  refine a_ldcs (q := 130 + 13) rfl (hw.ld (i := 13) (by decide)) ?_
  refine a_eV1 rfl lX12_109 mo_X12_isWord (h_isWord (k := 13) hw (by decide) h12 hbp hq) rfl rfl rfl ⟨12, _, rfl, rfl, rfl⟩ rfl ?_
  refine a_top (y := bI (isWd (I 426) e b 13)) (congrArg bI (hi 13 (by decide))) ?_
  cases c13 : isWd (I 426) e b 13 with
  | true =>
    refine a_if_eq rfl (fun z => absurd z (by decide)) (fun _ => ?_)
    refine a_s rfl rfl ?_
    refine a_goto rfl ?_
    refine a_iret rfl rfl ⟨?_, rfl⟩
    rw [if_pos (of_decide_eq_true c13).1, (of_decide_eq_true c13).2]
    rfl
  | false =>
  refine a_if_eq rfl (fun _ => ?_) (fun z => absurd rfl z)
  refine a_s rfl rfl ?_
  refine a_iret rfl rfl ⟨?_, rfl⟩
  by_cases c : kd (I 426) e b = 1
  · rw [if_pos c]
    have ne : ∀ k, isWd (I 426) e b k = false → wd (I 426) e b ≠ k := fun k hk z => by
      rw [show isWd (I 426) e b k = true from decide_eq_true ⟨c, z⟩] at hk
      cases hk
    unfold wpF
    rw [if_neg (ne 3 c3), if_neg (ne 24 c24), if_neg (ne 6 c6), if_neg (ne 7 c7), if_neg (ne 25 c25), if_neg (ne 26 c26), if_neg (ne 13 c13)]
  · rw [if_neg c]
def prtP (T : Nat → Int32) (e b : Nat) (o : List Int32) : PR := if prt T e b = -1 then (false, b, []) else (true, nx T e b, prt T e b :: o)
theorem nI_st : ∀ m, m < 1000 → (9 = stF (nI m) ∧ nI m = snF (nI m)) := by decide +kernel
theorem h_readPart (hw : WdS S) (hT : I 426 = T) (h : Cf T e n0 b o I I p) (hB : o.length < b) : Sp S m_X12_readPart 18 0 0 [.ref 420] (hp I L w1 w2 t) (QF T e n0 (prtP T e b o) I L w1 w2 t) nX := by
  have hbe := Cf.le h
  have he4 := Cf.e4 h
  have hskb := Cf.sk h
  refine Sp_of ok_X12_readPart rfl rfl ?_
  show AW S m_X12_readPart 18 _ _ 0 0 0 [some (.ref 420), none, none] [] (hp I L w1 w2 t)
  have bad : ∀ {z : Bool} {b' p' : Nat} {J : Nat → Nat → Int32}, prt T e b = -1 → Cf T e n0 b' o I J p' → o.length < 400 → J 420 12 = nI b → AW S m_X12_readPart 18 (QF T e n0 (prtP T e b o) I L w1 w2 t) nX 0 0 40 [some (.ref 420), some (.int (bI z)), none] [.int (-1)] (hp J L w1 w2 t) := by
    intro z b' p' J hp1 h2 ho4 hbeg
    rw [show prtP T e b o = (false, b, []) from if_pos hp1]
    have fin : ∀ {x y : Int32}, AW S m_X12_readPart 18 (QF T e n0 (false, b, []) I L w1 w2 t) nX 0 0 61 [some (.ref 420), some (.int (bI z)), some (.int (-1))] [.int y, .int x, .ref 420] (hp J L w1 w2 t) := by
      intro x y
      refine a_eV0 rfl lX12_180 mo_X12_emits (r_X12_emits (Cf.st h2) (by omega)) rfl rfl rfl ⟨12, _, rfl, rfl, rfl⟩ rfl ?_
      refine a_l2 rfl rfl rfl ?_
      refine a_if_lt rfl (fun _ => ?_) (fun c => absurd (by decide) c)
      refine a_s rfl rfl ?_
      exact a_zret rfl rfl rfl (QF.no (Cf.ef h2) ((emH_f (by decide)).trans hbeg))
    refine a_s2 rfl rfl rfl rfl rfl rfl ?_
    refine a_l0 rfl rfl rfl ?_
    refine a_l1 rfl rfl rfl ?_
    cases z with
    | false =>
      refine a_if_eq rfl (fun _ => ?_) (fun c => absurd rfl c)
      refine a_l2 rfl rfl rfl ?_
      refine a_l1 rfl rfl rfl ?_
      refine a_if_eq rfl (fun _ => ?_) (fun c => absurd rfl c)
      refine a_s rfl rfl ?_
      exact fin
    | true =>
      refine a_if_eq rfl (fun c => absurd c (by decide)) (fun _ => ?_)
      refine a_s rfl rfl ?_
      refine a_goto rfl ?_
      refine a_l1 rfl rfl rfl ?_
      refine a_if_eq rfl (fun c => absurd c (by decide)) (fun _ => ?_)
      refine a_l2 rfl rfl rfl ?_
      refine a_goto rfl ?_
      exact fin
  have good : ∀ {p' : Nat} {x y v : Int32} {J : Nat → Nat → Int32}, ¬ prt T e b = -1 → Cf T e n0 (nx T e b) o I J p' → x = stF (prt T e b) → y = snF (prt T e b) → ¬ v < 0 → AW S m_X12_readPart 18 (QF T e n0 (prtP T e b o) I L w1 w2 t) nX 0 0 61 [some (.ref 420), none, some (.int v)] [.int y, .int x, .ref 420] (hp J L w1 w2 t) := by
    intro p' x y v J hp1 h2 hx hy hv
    rw [show prtP T e b o = (true, nx T e b, prt T e b :: o) from if_neg hp1]
    have n1 := nx_lt (T := T) (prt_lt hp1)
    have n2 := Cf.le h2
    refine a_eV0 rfl lX12_180 mo_X12_emits (r_X12_emits (Cf.st h2) (by omega)) rfl rfl rfl ⟨12, _, rfl, rfl, rfl⟩ rfl ?_
    refine a_l2 rfl rfl rfl ?_
    refine a_if_lt rfl (fun c => absurd c hv) (fun _ => ?_)
    refine a_s rfl rfl ?_
    refine a_goto rfl ?_
    exact a_zret rfl rfl rfl (QF.yes (Cf.em h2 hx hy))
  refine a_l0 rfl rfl rfl ?_
  refine a_gV rfl lX12_106 mo_X12_letters (h_letters (Cf.pp h)) rfl rfl rfl ⟨12, _, rfl, rfl, rfl⟩ rfl (fun v' h' hv => ?_)
  obtain ⟨rfl, J1, rfl, h1⟩ := hv
  rw [hT, Cf.nb h] at h1
  have eT1 : J1 426 = T := (Rd.T h1).trans hT
  refine a_l0 rfl rfl rfl ?_
  refine a_geti rfl gfX12_81_12 rfl ?_
  refine a_top (y := nI (rn T e 1 b)) (Pp.pu (Rd.pp h1)) ?_
  refine a_l0 rfl rfl rfl ?_
  refine a_geti rfl gfX12_91_12 rfl ?_
  refine a_top (y := nI b) (Rd.be h1) ?_
  have hr1 := rn_le (T := T) (k := 1) hbe
  refine a_ic_ne rfl (fun c => ?_) (fun c => ?_)
  · have k1 : kd T e b = 1 := by
      have hne : ¬ rn T e 1 b = b := fun z => c (congrArg nI z)
      cases ck : isK T e 1 b with
      | true => exact (kd_lt (isK_lt ck)).trans (isK_kc ck)
      | false => exact absurd (rn_f ck) hne
    have hlt := kd_in (T := T) (e := e) (b := b) (by rw [k1]; decide)
    have C1 : Cf T e n0 (nx T e b) o I J1 (rn T e 1 b) := Cf.rd h h1 (by rw [← en_1 k1]; rfl)
    have ep : prt T e b = wPa (wd T e b) := (if_neg (by rw [k1]; decide)).trans (if_pos k1)
    refine a_s rfl rfl ?_
    refine a_s1 rfl rfl rfl rfl rfl rfl ?_
    refine a_l1 rfl rfl rfl ?_
    refine a_if_eq rfl (fun _ => ?_) (fun c => absurd rfl c)
    refine a_l0 rfl rfl rfl ?_
    refine a_eV1 rfl lX12_177 mo_X12_wordOfPart (h_wordOfPart hw (Rd.be h1) (Rd.bp h1) (Rd.pp h1) (by rw [eT1])) rfl rfl rfl ⟨12, _, rfl, rfl, rfl⟩ rfl ?_
    refine a_top (y := wpF (wd T e b)) (by rw [eT1]; exact if_pos k1) ?_
    have hw27 := wd_le (T := T) (e := e) (b := b)
    rcases wp_ok (wd T e b) (by omega) with ⟨z1, z2⟩ | ⟨z1, z2, z3, z4⟩
    · rw [z1]
      exact bad (z := false) (ep.trans z2) C1 (by omega) (Rd.be h1)
    · refine a_s2 rfl rfl rfl rfl rfl rfl ?_
      refine a_l0 rfl rfl rfl ?_
      refine a_l1 rfl rfl rfl ?_
      refine a_if_eq rfl (fun _ => ?_) (fun c => absurd rfl c)
      refine a_l2 rfl rfl rfl ?_
      refine a_l1 rfl rfl rfl ?_
      refine a_if_eq rfl (fun _ => ?_) (fun c => absurd rfl c)
      refine a_s rfl rfl ?_
      exact a_less (good (by rw [ep]; exact z2) C1 (by rw [ep]; exact z3) (by rw [ep]; exact z4) z1) ⟨rfl, rfl, trivial⟩
  · have er : rn T e 1 b = b := nI_inj (by omega) (by omega) c
    rw [er] at h1
    have k1 : kd T e b ≠ 1 := fun z => by
      have := rn_t (kd_isK (by decide) z)
      have h9 := rn_ge (T := T) (e := e) (k := 1) (p := b + 1)
      omega
    refine a_s rfl rfl ?_
    refine a_goto rfl ?_
    refine a_s1 rfl rfl rfl rfl rfl rfl ?_
    refine a_l1 rfl rfl rfl ?_
    refine a_if_eq rfl (fun c => absurd c (by decide)) (fun _ => ?_)
    refine a_l0 rfl rfl rfl ?_
    refine a_s rfl rfl ?_
    refine a_s rfl rfl ?_
    refine a_gV rfl lX12_113 mo_X12_number (h_number (b := b) (x := 0) (y := 999) (Rd.pp h1) (by rw [eT1]; exact hskb) (by decide)) rfl rfl rfl ⟨12, _, rfl, rfl, rfl⟩ rfl (fun v' h' hv => ?_)
    obtain ⟨rfl, J2, rfl, h2⟩ := hv
    rw [eT1] at h2 ⊢
    refine a_goto rfl ?_
    have ep : prt T e b = if kd T e b = 2 then vl T e b else -1 := by
      unfold prt
      by_cases c2 : kd T e b = 2
      · rw [if_pos c2, if_pos c2]
      · rw [if_neg c2, if_neg c2, if_neg k1]
    have C1 := Cf.rd h h1 hskb
    by_cases cv : prt T e b = -1
    · have en1 : nm T e b 0 999 = -1 := if_neg fun z => by
        rw [ep, if_pos z.1] at cv
        rw [cv] at z
        exact absurd z.2.1 (by decide)
      rw [en1]
      exact bad (z := true) cv (Cf.rd (b' := rn T e 4 (rn T e 2 b)) C1 h2 rfl) (by omega) (Rd.be h2)
    · have k2 : kd T e b = 2 := by
        by_cases c2 : kd T e b = 2
        · exact c2
        · rw [ep, if_neg c2] at cv
          exact absurd rfl cv
      rw [if_pos k2] at ep
      obtain ⟨m, hm, em⟩ := nu_rng k2 (by rw [← ep]; exact cv)
      have en1 : nm T e b 0 999 = nI m := by
        rw [← em]
        refine if_pos ⟨k2, ?_, ?_⟩
        · rw [em]
          exact nI_0le (by omega)
        · rw [em]
          exact nI_leu (j := 999) (by omega) (by decide)
      rw [en1]
      obtain ⟨s9, sn⟩ := nI_st m hm
      have C2 : Cf T e n0 (nx T e b) o I J2 (rn T e 2 b) := Cf.rd C1 h2 (by rw [← en_2 k2]; rfl)
      refine a_s2 rfl rfl rfl rfl rfl rfl ?_
      refine a_l0 rfl rfl rfl ?_
      refine a_l1 rfl rfl rfl ?_
      refine a_if_eq rfl (fun c => absurd c (by decide)) (fun _ => ?_)
      refine a_s rfl rfl ?_
      refine a_goto rfl ?_
      refine a_l1 rfl rfl rfl ?_
      refine a_if_eq rfl (fun c => absurd c (by decide)) (fun _ => ?_)
      refine a_l2 rfl rfl rfl ?_
      refine a_goto rfl ?_
      exact a_less (good cv C2 (by rw [ep, em]; exact s9) (by rw [ep, em]; exact sn) (nI_pos (by omega))) ⟨rfl, rfl, trivial⟩
theorem h_readSum (hw : WdS S) (hbt : BtT T) (hT : I 426 = T) (h : Cf T e n0 b o I I p) (hB : o.length < b) : Sp S m_X12_readSum 19 0 0 [.ref 420] (hp I L w1 w2 t) (QF T e n0 (sumP T e b o) I L w1 w2 t) nX := by
  have he4 := Cf.e4 h
  refine Sp_of ok_X12_readSum rfl rfl ?_
  show AW S m_X12_readSum 19 _ _ 0 0 0 [some (.ref 420)] [] (hp I L w1 w2 t)
  refine a_l0 rfl rfl rfl ?_
  refine a_gV rfl lX12_184 mo_X12_readPart (h_readPart hw hT h hB) rfl rfl rfl ⟨12, _, rfl, rfl, rfl⟩ rfl (fun v' h' hv => ?_)
  obtain ⟨rfl, J1, p1, rfl, hz1, hf1⟩ := hv
  by_cases c : prt T e b = -1
  · rw [show prtP T e b o = (false, b, []) from if_pos c] at hf1 ⊢
    rw [show sumP T e b o = (false, b, []) from if_pos c]
    refine a_if_ne rfl (fun z => absurd rfl z) (fun _ => ?_)
    refine a_s rfl rfl ?_
    exact a_zret rfl rfl rfl (QF.no (hf1 rfl).1 (hf1 rfl).2)
  rw [show prtP T e b o = (true, nx T e b, prt T e b :: o) from if_neg c] at hz1 ⊢
  have es0 : sumP T e b o = smL T e (nx T e b) (prt T e b :: o) := if_neg c
  have n1 := nx_lt (T := T) (prt_lt c)
  refine a_if_ne rfl (fun _ => ?_) (fun z => absurd (show (1 : Int32) = 0 from z) (by decide))
  refine a_inv (n := e - nx T e b) (fun m ls h => ls = [some (.ref 420)] ∧ ∃ J p' b' o', h = hp J L w1 w2 t ∧ Cf T e n0 b' o' I J p' ∧ o'.length < b' ∧ smL T e b' o' = sumP T e b o ∧ m = e - b') ⟨rfl, J1, p1, _, _, rfl, hz1 rfl, by show o.length + 1 < nx T e b; omega, es0.symm, rfl⟩ ?_
  rintro m _ _ ⟨rfl, J, p', b', o', rfl, C, hB', es, hm⟩ ih
  have eT := Cf.tt C hT
  refine a_l0 rfl rfl rfl ?_
  refine a_s rfl rfl ?_
  refine a_gV rfl lX12_187 mo_X12_sign (h_sign (b := b') (c := 43) (by rw [eT]; exact hbt) (by decide) (Cf.pp C) (by rw [eT]; exact Cf.nb C)) rfl rfl rfl ⟨12, _, rfl, rfl, rfl⟩ rfl (fun v' h' hv => ?_)
  obtain ⟨rfl, J2, rfl, h2⟩ := hv
  rw [eT] at h2 ⊢
  cases cs : sg T e b' (nI 43) with
  | false =>
    have cs : sg T e b' 43 = false := cs
    refine a_if_eq rfl (fun _ => ?_) (fun z => absurd rfl z)
    rw [if_neg (by rw [show sg T e b' (nI 43) = false from cs]; decide)] at h2
    refine a_s rfl rfl ?_
    rw [← es, smL_f cs]
    exact a_zret rfl rfl rfl (QF.yes (Cf.rd C h2 (Cf.sk C)))
  | true =>
    have cs : sg T e b' 43 = true := cs
    refine a_if_eq rfl (fun z => absurd z (by decide)) (fun _ => ?_)
    rw [if_pos (show sg T e b' (nI 43) = true from cs)] at h2
    have n2 := nx_lt (T := T) (sg_lt cs)
    have C2 : Cf T e n0 (nx T e b') o' I J2 (en T e b') := Cf.rd C h2 rfl
    have n2e := Cf.le C2
    refine a_l0 rfl rfl rfl ?_
    refine a_gV rfl lX12_184 mo_X12_readPart (h_readPart hw (Cf.tt C2 hT) (Cf.rf C2) (by omega)) rfl rfl rfl ⟨12, _, rfl, rfl, rfl⟩ rfl (fun v' h' hv => ?_)
    obtain ⟨rfl, J3, p3, rfl, hz3, hf3⟩ := hv
    by_cases cp : prt T e (nx T e b') = -1
    · rw [show prtP T e (nx T e b') o' = (false, nx T e b', []) from if_pos cp] at hf3 ⊢
      refine a_if_ne rfl (fun z => absurd rfl z) (fun _ => ?_)
      refine a_s rfl rfl ?_
      rw [← es, smL_n cs cp]
      exact a_zret rfl rfl rfl (Cf.no C2 (hf3 rfl).1 (hf3 rfl).2)
    · rw [show prtP T e (nx T e b') o' = (true, nx T e (nx T e b'), prt T e (nx T e b') :: o') from if_neg cp] at hz3 ⊢
      refine a_if_ne rfl (fun _ => ?_) (fun z => absurd (show (1 : Int32) = 0 from z) (by decide))
      rw [smL_t cs cp] at es
      have n3 := nx_lt (T := T) (prt_lt cp)
      have C3 := Cf.cc C2 (hz3 rfl)
      have n3e : nx T e (nx T e b') ≤ e := Cf.le C3
      refine a_l0 rfl rfl rfl ?_
      refine a_s rfl rfl ?_
      refine a_s rfl rfl ?_
      refine a_eV0 rfl lX12_180 mo_X12_emits (r_X12_emits (Cf.st C3) (by show o'.length + 1 ≤ 399; omega)) rfl rfl rfl ⟨12, _, rfl, rfl, rfl⟩ rfl ?_
      refine a_goto rfl ?_
      exact ih (e - nx T e (nx T e b')) _ _ (by omega) ⟨rfl, _, p3, _, _, rfl, Cf.em (z := 2000) C3 (by decide) (by decide), by show o'.length + 1 + 1 < nx T e (nx T e b'); omega, es, rfl⟩
theorem h_readTag (hw : WdS S) (hT : I 426 = T) (h : Cf T e n0 b o I I p) (hB : o.length < b) : Sp S m_X12_readTag 17 0 0 [.ref 420] (hp I L w1 w2 t) (fun v h' => ∃ z x J p', v = some (.int (bI z)) ∧ h' = hp J L w1 w2 t ∧ (z = true → ((isWd T e b 22 = true ∧ x = 1007) ∨ (isWd T e b 22 = false ∧ isWd T e b 23 = true ∧ x = 1008)) ∧ Cf T e n0 (nx T e b) (x :: o) I J p') ∧ (z = false → (isWd T e b 22 = false ∧ isWd T e b 23 = false) ∧ Cf T e n0 b o I J p')) nX := by
  have hbe := Cf.le h
  have he4 := Cf.e4 h
  refine Sp_of ok_X12_readTag rfl rfl ?_
  show AW S m_X12_readTag 17 _ _ 0 0 0 [some (.ref 420), none] [] (hp I L w1 w2 t)
  refine a_l0 rfl rfl rfl ?_
  refine a_gV rfl lX12_106 mo_X12_letters (h_letters (Cf.pp h)) rfl rfl rfl ⟨12, _, rfl, rfl, rfl⟩ rfl (fun v' h' hv => ?_)
  obtain ⟨rfl, J1, rfl, h1⟩ := hv
  rw [hT, Cf.nb h] at h1
  have eT1 : J1 426 = T := (Rd.T h1).trans hT
  have good : ∀ (k : Nat) (x : Int32), nI k = stF x → 0 = snF x → k < 100 → kd T e b = 1 → ((isWd T e b 22 = true ∧ x = 1007) ∨ (isWd T e b 22 = false ∧ isWd T e b 23 = true ∧ x = 1008)) → AW S m_X12_readTag 17 (fun v h' => ∃ z x J p', v = some (.int (bI z)) ∧ h' = hp J L w1 w2 t ∧ (z = true → ((isWd T e b 22 = true ∧ x = 1007) ∨ (isWd T e b 22 = false ∧ isWd T e b 23 = true ∧ x = 1008)) ∧ Cf T e n0 (nx T e b) (x :: o) I J p') ∧ (z = false → (isWd T e b 22 = false ∧ isWd T e b 23 = false) ∧ Cf T e n0 b o I J p')) nX 0 0 33 [some (.ref 420), none] [.int (nI k)] (hp J1 L w1 w2 t) := by
    intro k x hk1 hk2 hk k1 hx
    have C1 : Cf T e n0 (nx T e b) o I J1 (rn T e 1 b) := Cf.rd h h1 (by rw [← en_1 k1]; rfl)
    refine a_s1 rfl rfl rfl rfl rfl rfl ?_
    refine a_l1 rfl rfl rfl ?_
    refine a_if_lt rfl (fun c => absurd c (nI_pos (by omega))) (fun _ => ?_)
    refine a_l0 rfl rfl rfl ?_
    refine a_l1 rfl rfl rfl ?_
    refine a_s rfl rfl ?_
    refine a_eV0 rfl lX12_180 mo_X12_emits (r_X12_emits (Cf.st C1) (by omega)) rfl rfl rfl ⟨12, _, rfl, rfl, rfl⟩ rfl ?_
    refine a_goto rfl ?_
    refine a_l1 rfl rfl rfl ?_
    refine a_if_lt rfl (fun c => absurd c (nI_pos (by omega))) (fun _ => ?_)
    refine a_s rfl rfl ?_
    refine a_goto rfl ?_
    exact a_zret rfl rfl rfl ⟨true, x, _, _, rfl, rfl, fun _ => ⟨hx, Cf.em C1 hk1 hk2⟩, fun z => by cases z⟩
  refine a_l0 rfl rfl rfl ?_
  refine a_ldcs (q := 130 + 22) rfl (hw.ld (i := 22) (by decide)) ?_
  refine a_eV1 rfl lX12_109 mo_X12_isWord (h_isWord (k := 22) hw (by decide) (Rd.be h1) (Rd.bp h1) (Rd.pp h1)) rfl rfl rfl ⟨12, _, rfl, rfl, rfl⟩ rfl ?_
  obtain ⟨z22, c22⟩ : ∃ z, isWd T e b 22 = z := ⟨_, rfl⟩
  refine a_top (y := bI z22) (by rw [eT1]; exact congrArg bI ((isW_wd (by decide)).trans c22)) ?_
  cases z22 with
  | true =>
    refine a_if_eq rfl (fun z => absurd z (by decide)) (fun _ => ?_)
    refine a_s rfl rfl ?_
    refine a_goto rfl ?_
    exact good 7 1007 (by decide) (by decide) (by decide) (of_decide_eq_true c22).1 (Or.inl ⟨c22, rfl⟩)
  | false =>
  refine a_if_eq rfl (fun _ => ?_) (fun z => absurd rfl z)
  refine a_l0 rfl rfl rfl ?_
  refine a_ldcs (q := 130 + 23) rfl (hw.ld (i := 23) (by decide)) ?_
  refine a_eV1 rfl lX12_109 mo_X12_isWord (h_isWord (k := 23) hw (by decide) (Rd.be h1) (Rd.bp h1) (Rd.pp h1)) rfl rfl rfl ⟨12, _, rfl, rfl, rfl⟩ rfl ?_
  obtain ⟨z23, c23⟩ : ∃ z, isWd T e b 23 = z := ⟨_, rfl⟩
  refine a_top (y := bI z23) (by rw [eT1]; exact congrArg bI ((isW_wd (by decide)).trans c23)) ?_
  cases z23 with
  | true =>
    refine a_if_eq rfl (fun z => absurd z (by decide)) (fun _ => ?_)
    refine a_s rfl rfl ?_
    refine a_goto rfl ?_
    exact good 8 1008 (by decide) (by decide) (by decide) (of_decide_eq_true c23).1 (Or.inr ⟨c22, c23, rfl⟩)
  | false =>
  refine a_if_eq rfl (fun _ => ?_) (fun z => absurd rfl z)
  refine a_s rfl rfl ?_
  refine a_s1 rfl rfl rfl rfl rfl rfl ?_
  refine a_l1 rfl rfl rfl ?_
  refine a_if_lt rfl (fun _ => ?_) (fun c => absurd (by decide) c)
  refine a_l0 rfl rfl rfl ?_
  refine a_l0 rfl rfl rfl ?_
  refine a_geti rfl gfX12_91_12 rfl ?_
  refine a_top (y := nI b) (Rd.be h1) ?_
  refine a_puti rfl pfX12_81_12 rfl ?_
  refine a_l1 rfl rfl rfl ?_
  refine a_if_lt rfl (fun _ => ?_) (fun c => absurd (by decide) c)
  refine a_s rfl rfl ?_
  exact a_zret rfl rfl rfl ⟨false, 0, _, b, rfl, rfl, (fun z => by cases z), fun _ => ⟨⟨c22, c23⟩, Cf.rd h (Rd.rs h1) (Cf.sk h)⟩⟩
theorem seqP_of {item : Nat → List Int32 → PR} {k : Nat} {op : Int32} {z : Bool} {b1 : Nat} {o1 : List Int32} (hr : item b o = (z, b1, o1)) : seqP T e item k op b o = if z = true then loopP T e item k op b1 o1 else (false, b1, []) := by
  unfold seqP
  rw [hr]
theorem atomR_p {D : Nat} {z : Bool} {b1 : Nat} {o1 : List Int32} (h : sg T e b 40 = true) (hr : cndP T e (atomR T e D) (nx T e b) o = (z, b1, o1)) : atomR T e (D + 1) b o = if z = true then (if sg T e b1 41 = true then (true, nx T e b1, o1) else (false, b1, [])) else (false, b1, []) := by
  unfold atomR
  rw [if_pos h, hr]
theorem atomR_n {D : Nat} {z : Bool} {b1 : Nat} {o1 : List Int32} (h : sg T e b 40 = false) (h2 : isWd T e b 21 = true) (hr : atomR T e D (nx T e b) o = (z, b1, o1)) : atomR T e (D + 1) b o = if z = true then (true, b1, 2003 :: o1) else (false, b1, []) := by
  rw [show atomR T e (D + 1) b o = (if (atomR T e D (nx T e b) o).1 = true then (true, (atomR T e D (nx T e b) o).2.1, 2003 :: (atomR T e D (nx T e b) o).2.2) else (false, (atomR T e D (nx T e b) o).2.1, [])) from (if_neg (by rw [h]; decide)).trans (if_pos h2), hr]
theorem atomR_b {D : Nat} (h : sg T e b 40 = false) (h2 : isWd T e b 21 = false) : atomR T e D b o = baseP T e b o := by
  cases D with
  | zero =>
    unfold atomR
    rw [if_neg (by unfold opn; rw [h, h2]; decide)]
  | succ D =>
    unfold atomR
    rw [if_neg (by rw [h]; decide), if_neg (by rw [h2]; decide)]
theorem atomR_0 (h : opn T e b = true) : atomR T e 0 b o = (false, b, []) := by
  unfold atomR
  rw [if_pos h]

theorem h_readAtom_6 (hw : WdS S) (hbt : BtT T) (hT : I 426 = T) (hd : I 420 13 = nI 6) (h : Cf T e n0 b o I I p) (hB : o.length < b) : Sp S m_X12_readAtom 20 0 0 [.ref 420] (hp I L w1 w2 t) (QF T e n0 (atomR T e 0 b o) I L w1 w2 t) nX := by
  have he4 := Cf.e4 h
  have hbe := Cf.le h
  refine Sp_of ok_X12_readAtom rfl rfl ?_
  show AW S m_X12_readAtom 20 _ _ 0 0 0 [some (.ref 420), none] [] (hp I L w1 w2 t)
  refine a_l0 rfl rfl rfl ?_
  refine a_s rfl rfl ?_
  refine a_gV rfl lX12_187 mo_X12_sign (h_sign (b := b) (c := 40) (by rw [hT]; exact hbt) (by decide) (Cf.pp h) (by rw [hT]; exact Cf.nb h)) rfl rfl rfl ⟨12, _, rfl, rfl, rfl⟩ rfl (fun v' h' hv => ?_)
  obtain ⟨rfl, J1, rfl, h1⟩ := hv
  rw [hT] at h1 ⊢
  cases c40 : sg T e b (nI 40) with
  | true =>
    have c40 : sg T e b 40 = true := c40
    refine a_if_eq rfl (fun z => absurd z (by decide)) (fun _ => ?_)
    rw [if_pos (show sg T e b (nI 40) = true from c40)] at h1
    have n1 := nx_lt (T := T) (sg_lt c40)
    have C1 : Cf T e n0 (nx T e b) o I J1 (en T e b) := Cf.rd h h1 rfl
    refine a_l0 rfl rfl rfl ?_
    refine a_geti rfl gfX12_194_12 rfl ?_
    refine a_top (y := nI 6) (Cf.d C1 hd) ?_
    refine a_s rfl rfl ?_
    refine a_ic_ne rfl (fun c => absurd rfl c) (fun _ => ?_)
    refine a_s rfl rfl ?_
    rw [atomR_0 (by unfold opn; rw [c40]; exact Bool.or_true _)]
    exact a_zret rfl rfl rfl (QF.no C1.1 (Rd.be h1))
  | false =>
  have c40 : sg T e b 40 = false := c40
  refine a_if_eq rfl (fun _ => ?_) (fun z => absurd rfl z)
  rw [if_neg (by rw [show sg T e b (nI 40) = false from c40]; decide)] at h1
  have C0 : Cf T e n0 b o I J1 b := Cf.rd h h1 (Cf.sk h)
  have eT0 := Cf.tt C0 hT
  refine a_l0 rfl rfl rfl ?_
  refine a_ldcs (q := 130 + 21) rfl (hw.ld (i := 21) (by decide)) ?_
  refine a_gV rfl lX12_128 mo_X12_passes (h_passes (b := b) (k := 21) hw (by decide) (Cf.pp C0) (by rw [eT0]; exact Cf.nb C0)) rfl rfl rfl ⟨12, _, rfl, rfl, rfl⟩ rfl (fun v' h' hv => ?_)
  obtain ⟨rfl, J2, rfl, h2⟩ := hv
  rw [eT0] at h2 ⊢
  cases c21 : isWd T e b 21 with
  | true =>
    refine a_if_eq rfl (fun z => absurd z (by decide)) (fun _ => ?_)
    rw [if_pos c21] at h2
    have n1 := nx_lt (T := T) (isWd_lt c21)
    have C2 : Cf T e n0 (nx T e b) o I J2 (en T e b) := Cf.rd C0 h2 rfl
    refine a_l0 rfl rfl rfl ?_
    refine a_geti rfl gfX12_194_12 rfl ?_
    refine a_top (y := nI 6) (Cf.d C2 hd) ?_
    refine a_s rfl rfl ?_
    refine a_ic_ne rfl (fun c => absurd rfl c) (fun _ => ?_)
    refine a_s rfl rfl ?_
    rw [atomR_0 (by unfold opn; rw [c21]; exact Bool.true_or _)]
    exact a_zret rfl rfl rfl (QF.no C2.1 (Rd.be h2))
  | false =>
  refine a_if_eq rfl (fun _ => ?_) (fun z => absurd rfl z)
  rw [if_neg (by rw [c21]; decide)] at h2
  have C2 : Cf T e n0 b o I J2 b := Cf.rd C0 h2 (Cf.sk C0)
  rw [atomR_b c40 c21]
  refine a_l0 rfl rfl rfl ?_
  refine a_gV rfl lX12_205 mo_X12_readTag (h_readTag hw (Cf.tt C2 hT) (Cf.rf C2) hB) rfl rfl rfl ⟨12, _, rfl, rfl, rfl⟩ rfl (fun v' h' hv => ?_)
  obtain ⟨z3, x3, J3, p3, rfl, rfl, ht3, hf3⟩ := hv
  cases z3 with
  | true =>
    refine a_if_eq rfl (fun z => absurd z (by decide)) (fun _ => ?_)
    refine a_s rfl rfl ?_
    obtain ⟨hx, D3⟩ := ht3 rfl
    rcases hx with ⟨c22, rfl⟩ | ⟨c22, c23, rfl⟩
    · rw [show baseP T e b o = (true, nx T e b, 1007 :: o) from if_pos c22]
      exact a_zret rfl rfl rfl (QF.yes (Cf.cc C2 D3))
    · rw [show baseP T e b o = (true, nx T e b, 1008 :: o) from (if_neg (by rw [c22]; decide)).trans (if_pos c23)]
      exact a_zret rfl rfl rfl (QF.yes (Cf.cc C2 D3))
  | false =>
  refine a_if_eq rfl (fun _ => ?_) (fun z => absurd rfl z)
  obtain ⟨⟨c22, c23⟩, D3⟩ := hf3 rfl
  have C3 := Cf.cc C2 D3
  have g4 := sumP_gd (T := T) (o := o) hbe
  refine a_l0 rfl rfl rfl ?_
  refine a_gV rfl lX12_208 mo_X12_readSum (h_readSum hw hbt (Cf.tt C3 hT) (Cf.rf C3) hB) rfl rfl rfl ⟨12, _, rfl, rfl, rfl⟩ rfl (fun v' h' hv => ?_)
  obtain ⟨rfl, J4, p4, rfl, hz4, hf4⟩ := hv
  rcases hr4 : sumP T e b o with ⟨z4, b4, o4⟩
  rw [baseP_s c22 c23 hr4]
  rw [hr4] at hz4 hf4 g4
  cases z4 with
  | false =>
    refine a_if_ne rfl (fun z => absurd rfl z) (fun _ => ?_)
    refine a_s rfl rfl ?_
    rw [if_neg (by decide)]
    exact a_zret rfl rfl rfl (Cf.no C3 (hf4 rfl).1 (hf4 rfl).2)
  | true =>
  refine a_if_ne rfl (fun _ => ?_) (fun z => absurd (show (1 : Int32) = 0 from z) (by decide))
  rw [if_pos rfl]
  have C4 : Cf T e n0 b4 o4 I J4 p4 := Cf.cc C3 (hz4 rfl)
  obtain ⟨-, -, g4⟩ := g4
  have g4 : b < b4 ∧ o4.length + b ≤ o.length + b4 := g4 rfl
  have key : ∀ {z5 : Bool} {x : Int32} {p' : Nat} {J : Nat → Nat → Int32}, b4 < nx T e b4 → x = (if z5 = true then 2001 else 2002) → Cf T e n0 (nx T e b4) o4 I J p' → AW S m_X12_readAtom 20 (QF T e n0 (cmpP T e x (nx T e b4) o4) I L w1 w2 t) nX 0 0 152 [some (.ref 420), some (.int (bI z5))] [] (hp J L w1 w2 t) := by
    intro z5 x p' J n4 hx C
    have g6 := sumP_gd (T := T) (o := o4) (Cf.le C)
    refine a_l0 rfl rfl rfl ?_
    refine a_gV rfl lX12_208 mo_X12_readSum (h_readSum hw hbt (Cf.tt C hT) (Cf.rf C) (by omega)) rfl rfl rfl ⟨12, _, rfl, rfl, rfl⟩ rfl (fun v' h' hv => ?_)
    obtain ⟨rfl, J6, p6, rfl, hz6, hf6⟩ := hv
    rcases hr6 : sumP T e (nx T e b4) o4 with ⟨z6, b6, o6⟩
    rw [hr6] at hz6 hf6 g6
    cases z6 with
    | false =>
      refine a_if_ne rfl (fun z => absurd rfl z) (fun _ => ?_)
      refine a_s rfl rfl ?_
      rw [cmpP_f hr6]
      exact a_zret rfl rfl rfl (Cf.no C (hf6 rfl).1 (hf6 rfl).2)
    | true =>
      refine a_if_ne rfl (fun _ => ?_) (fun z => absurd (show (1 : Int32) = 0 from z) (by decide))
      rw [cmpP_t hr6]
      have C6 : Cf T e n0 b6 o6 I J6 p6 := Cf.cc C (hz6 rfl)
      have c6e := Cf.le C6
      obtain ⟨-, -, g6⟩ := g6
      have g6 : nx T e b4 < b6 ∧ o6.length + nx T e b4 ≤ o4.length + b6 := g6 rfl
      refine a_l0 rfl rfl rfl ?_
      refine a_l1 rfl rfl rfl ?_
      cases z5 with
      | false =>
        rw [if_neg (by decide)] at hx
        subst hx
        refine a_if_eq rfl (fun _ => ?_) (fun c => absurd rfl c)
        refine a_s rfl rfl ?_
        refine a_s rfl rfl ?_
        refine a_eV0 rfl lX12_180 mo_X12_emits (r_X12_emits (Cf.st C6) (by omega)) rfl rfl rfl ⟨12, _, rfl, rfl, rfl⟩ rfl ?_
        refine a_s rfl rfl ?_
        exact a_zret rfl rfl rfl (QF.yes (Cf.em (z := 2002) C6 (by decide) (by decide)))
      | true =>
        rw [if_pos rfl] at hx
        subst hx
        refine a_if_eq rfl (fun c => absurd c (by decide)) (fun _ => ?_)
        refine a_s rfl rfl ?_
        refine a_goto rfl ?_
        refine a_s rfl rfl ?_
        refine a_eV0 rfl lX12_180 mo_X12_emits (r_X12_emits (Cf.st C6) (by omega)) rfl rfl rfl ⟨12, _, rfl, rfl, rfl⟩ rfl ?_
        refine a_s rfl rfl ?_
        exact a_zret rfl rfl rfl (QF.yes (Cf.em (z := 2001) C6 (by decide) (by decide)))
  have eT4 := Cf.tt C4 hT
  refine a_l0 rfl rfl rfl ?_
  refine a_s rfl rfl ?_
  refine a_gV rfl lX12_187 mo_X12_sign (h_sign (b := b4) (c := 60) (by rw [eT4]; exact hbt) (by decide) (Cf.pp C4) (by rw [eT4]; exact Cf.nb C4)) rfl rfl rfl ⟨12, _, rfl, rfl, rfl⟩ rfl (fun v' h' hv => ?_)
  obtain ⟨rfl, J5, rfl, h5⟩ := hv
  rw [eT4] at h5 ⊢
  refine a_s1 rfl rfl rfl rfl rfl rfl ?_
  refine a_l1 rfl rfl rfl ?_
  cases c60 : sg T e b4 (nI 60) with
  | true =>
    have c60 : sg T e b4 60 = true := c60
    refine a_if_ne rfl (fun _ => ?_) (fun z => absurd (show (1 : Int32) = 0 from z) (by decide))
    rw [if_pos (show sg T e b4 (nI 60) = true from c60)] at h5
    rw [if_pos c60]
    exact key (z5 := true) (nx_lt (sg_lt c60)) rfl (Cf.rd C4 h5 rfl)
  | false =>
  have c60 : sg T e b4 60 = false := c60
  refine a_if_ne rfl (fun z => absurd rfl z) (fun _ => ?_)
  rw [if_neg (by rw [show sg T e b4 (nI 60) = false from c60]; decide)] at h5
  rw [if_neg (by rw [c60]; decide)]
  have C5 : Cf T e n0 b4 o4 I J5 b4 := Cf.rd C4 h5 (Cf.sk C4)
  have eT5 := Cf.tt C5 hT
  refine a_l0 rfl rfl rfl ?_
  refine a_s rfl rfl ?_
  refine a_gV rfl lX12_187 mo_X12_sign (h_sign (b := b4) (c := 62) (by rw [eT5]; exact hbt) (by decide) (Cf.pp C5) (by rw [eT5]; exact Cf.nb C5)) rfl rfl rfl ⟨12, _, rfl, rfl, rfl⟩ rfl (fun v' h' hv => ?_)
  obtain ⟨rfl, J7, rfl, h7⟩ := hv
  rw [eT5] at h7 ⊢
  cases c62 : sg T e b4 (nI 62) with
  | false =>
    have c62 : sg T e b4 62 = false := c62
    refine a_if_eq rfl (fun _ => ?_) (fun z => absurd rfl z)
    rw [if_neg (by rw [show sg T e b4 (nI 62) = false from c62]; decide)] at h7
    rw [if_neg (by rw [c62]; decide)]
    refine a_s rfl rfl ?_
    exact a_zret rfl rfl rfl (QF.no (Fm.tr C5.1 (Fm.mo (Rd.fm h7) sR_sY)) (Rd.be h7))
  | true =>
    have c62 : sg T e b4 62 = true := c62
    refine a_if_eq rfl (fun z => absurd z (by decide)) (fun _ => ?_)
    rw [if_pos (show sg T e b4 (nI 62) = true from c62)] at h7
    rw [if_pos c62]
    exact key (z5 := false) (nx_lt (sg_lt c62)) rfl (Cf.rd C5 h7 rfl)
theorem h_readAllOf_6 (hw : WdS S) (hbt : BtT T) (hT : I 426 = T) (hd : I 420 13 = nI 6) (h : Cf T e n0 b o I I p) (hB : o.length < b) : Sp S m_X12_readAllOf 21 0 0 [.ref 420] (hp I L w1 w2 t) (QF T e n0 (seqP T e (atomR T e 0) 20 2004 b o) I L w1 w2 t) nX := by
  have he4 := Cf.e4 h
  have g0 := atomR_gdo (T := T) (D := 0) (o := o) (Cf.le h)
  refine Sp_of ok_X12_readAllOf rfl rfl ?_
  show AW S m_X12_readAllOf 21 _ _ 0 0 0 [some (.ref 420)] [] (hp I L w1 w2 t)
  refine a_l0 rfl rfl rfl ?_
  refine a_gV rfl lX12_202 mo_X12_readAtom (h_readAtom_6 hw hbt hT hd h hB) rfl rfl rfl ⟨12, _, rfl, rfl, rfl⟩ rfl (fun v' h' hv => ?_)
  obtain ⟨rfl, J1, p1, rfl, hz1, hf1⟩ := hv
  rcases hr : (atomR T e 0) b o with ⟨z, b1, o1⟩
  rw [seqP_of hr]
  rw [hr] at hz1 hf1 g0
  cases z with
  | false =>
    refine a_if_ne rfl (fun z => absurd rfl z) (fun _ => ?_)
    refine a_s rfl rfl ?_
    rw [if_neg (by decide)]
    exact a_zret rfl rfl rfl (QF.no (hf1 rfl).1 (hf1 rfl).2)
  | true =>
  refine a_if_ne rfl (fun _ => ?_) (fun z => absurd (show (1 : Int32) = 0 from z) (by decide))
  rw [if_pos rfl]
  obtain ⟨-, -, g3⟩ := g0
  have g3 : b < b1 ∧ o1.length + b ≤ o.length + b1 := g3 rfl
  generalize hR : loopP T e (atomR T e 0) 20 2004 b1 o1 = R
  refine a_inv (n := e - b1) (fun m ls h => ls = [some (.ref 420)] ∧ ∃ J p' b' o', h = hp J L w1 w2 t ∧ Cf T e n0 b' o' I J p' ∧ o'.length < b' ∧ loopP T e (atomR T e 0) 20 2004 b' o' = R ∧ m = e - b') ⟨rfl, J1, p1, _, _, rfl, hz1 rfl, by show o1.length < b1; omega, hR, rfl⟩ ?_
  rintro m _ _ ⟨rfl, J, p', b', o', rfl, C, hB', es, hm⟩ ih
  have eT := Cf.tt C hT
  refine a_l0 rfl rfl rfl ?_
  refine a_ldcs (q := 130 + 20) rfl (hw.ld (i := 20) (by decide)) ?_
  refine a_gV rfl lX12_128 mo_X12_passes (h_passes (b := b') (k := 20) hw (by decide) (Cf.pp C) (by rw [eT]; exact Cf.nb C)) rfl rfl rfl ⟨12, _, rfl, rfl, rfl⟩ rfl (fun v' h' hv => ?_)
  obtain ⟨rfl, J2, rfl, h2⟩ := hv
  rw [eT] at h2 ⊢
  cases cw : isWd T e b' 20 with
  | false =>
    refine a_if_eq rfl (fun _ => ?_) (fun z => absurd rfl z)
    rw [if_neg (by rw [cw]; decide)] at h2
    refine a_s rfl rfl ?_
    rw [← es, loopP_f cw]
    exact a_zret rfl rfl rfl (QF.yes (Cf.rd C h2 (Cf.sk C)))
  | true =>
    refine a_if_eq rfl (fun z => absurd z (by decide)) (fun _ => ?_)
    rw [if_pos cw] at h2
    have n2 := nx_lt (T := T) (isWd_lt cw)
    have C2 : Cf T e n0 (nx T e b') o' I J2 (en T e b') := Cf.rd C h2 rfl
    have n2e := Cf.le C2
    have g4 := atomR_gdo (T := T) (D := 0) (o := o') n2e
    refine a_l0 rfl rfl rfl ?_
    refine a_gV rfl lX12_202 mo_X12_readAtom (h_readAtom_6 hw hbt (Cf.tt C2 hT) (Cf.d C2 hd) (Cf.rf C2) (by omega)) rfl rfl rfl ⟨12, _, rfl, rfl, rfl⟩ rfl (fun v' h' hv => ?_)
    obtain ⟨rfl, J3, p3, rfl, hz3, hf3⟩ := hv
    have el := fun g => loopP_t (op := 2004) (o := o') (item := atomR T e 0) cw g
    have en' := loopP_n (op := 2004) (o := o') (item := atomR T e 0) cw
    rcases hr2 : (atomR T e 0) (nx T e b') o' with ⟨z2, b2, o2⟩
    rw [hr2] at hz3 hf3 g4 el en'
    cases z2 with
    | false =>
      refine a_if_ne rfl (fun z => absurd rfl z) (fun _ => ?_)
      refine a_s rfl rfl ?_
      rw [← es, en' Bool.false_ne_true]
      exact a_zret rfl rfl rfl (Cf.no C2 (hf3 rfl).1 (hf3 rfl).2)
    | true =>
      refine a_if_ne rfl (fun _ => ?_) (fun z => absurd (show (1 : Int32) = 0 from z) (by decide))
      have C3 : Cf T e n0 b2 o2 I J3 p3 := Cf.cc C2 (hz3 rfl)
      have c3e := Cf.le C3
      obtain ⟨-, -, g5⟩ := g4
      have g5 : nx T e b' < b2 ∧ o2.length + nx T e b' ≤ o'.length + b2 := g5 rfl
      have es2 : loopP T e (atomR T e 0) 20 2004 b2 (2004 :: o2) = R := (el (by show b' < b2; omega) rfl).symm.trans es
      refine a_l0 rfl rfl rfl ?_
      refine a_s rfl rfl ?_
      refine a_s rfl rfl ?_
      refine a_eV0 rfl lX12_180 mo_X12_emits (r_X12_emits (Cf.st C3) (by omega)) rfl rfl rfl ⟨12, _, rfl, rfl, rfl⟩ rfl ?_
      refine a_goto rfl ?_
      exact ih (e - b2) _ _ (by omega) ⟨rfl, _, p3, b2, _, rfl, Cf.em (z := 2004) C3 (by decide) (by decide), by show o2.length + 1 < b2; omega, es2, rfl⟩
theorem h_readCond_6 (hw : WdS S) (hbt : BtT T) (hT : I 426 = T) (hd : I 420 13 = nI 6) (h : Cf T e n0 b o I I p) (hB : o.length < b) : Sp S m_X12_readCond 22 0 0 [.ref 420] (hp I L w1 w2 t) (QF T e n0 (seqP T e (seqP T e (atomR T e 0) 20 2004) 19 2005 b o) I L w1 w2 t) nX := by
  have he4 := Cf.e4 h
  have g0 := seqA_gd (T := T) (D := 0) (o := o) (Cf.le h)
  refine Sp_of ok_X12_readCond rfl rfl ?_
  show AW S m_X12_readCond 22 _ _ 0 0 0 [some (.ref 420)] [] (hp I L w1 w2 t)
  refine a_l0 rfl rfl rfl ?_
  refine a_gV rfl lX12_213 mo_X12_readAllOf (h_readAllOf_6 hw hbt hT hd h hB) rfl rfl rfl ⟨12, _, rfl, rfl, rfl⟩ rfl (fun v' h' hv => ?_)
  obtain ⟨rfl, J1, p1, rfl, hz1, hf1⟩ := hv
  rcases hr : (seqP T e (atomR T e 0) 20 2004) b o with ⟨z, b1, o1⟩
  rw [seqP_of hr]
  rw [hr] at hz1 hf1 g0
  cases z with
  | false =>
    refine a_if_ne rfl (fun z => absurd rfl z) (fun _ => ?_)
    refine a_s rfl rfl ?_
    rw [if_neg (by decide)]
    exact a_zret rfl rfl rfl (QF.no (hf1 rfl).1 (hf1 rfl).2)
  | true =>
  refine a_if_ne rfl (fun _ => ?_) (fun z => absurd (show (1 : Int32) = 0 from z) (by decide))
  rw [if_pos rfl]
  obtain ⟨-, -, g3⟩ := g0
  have g3 : b < b1 ∧ o1.length + b ≤ o.length + b1 := g3 rfl
  generalize hR : loopP T e (seqP T e (atomR T e 0) 20 2004) 19 2005 b1 o1 = R
  refine a_inv (n := e - b1) (fun m ls h => ls = [some (.ref 420)] ∧ ∃ J p' b' o', h = hp J L w1 w2 t ∧ Cf T e n0 b' o' I J p' ∧ o'.length < b' ∧ loopP T e (seqP T e (atomR T e 0) 20 2004) 19 2005 b' o' = R ∧ m = e - b') ⟨rfl, J1, p1, _, _, rfl, hz1 rfl, by show o1.length < b1; omega, hR, rfl⟩ ?_
  rintro m _ _ ⟨rfl, J, p', b', o', rfl, C, hB', es, hm⟩ ih
  have eT := Cf.tt C hT
  refine a_l0 rfl rfl rfl ?_
  refine a_ldcs (q := 130 + 19) rfl (hw.ld (i := 19) (by decide)) ?_
  refine a_gV rfl lX12_128 mo_X12_passes (h_passes (b := b') (k := 19) hw (by decide) (Cf.pp C) (by rw [eT]; exact Cf.nb C)) rfl rfl rfl ⟨12, _, rfl, rfl, rfl⟩ rfl (fun v' h' hv => ?_)
  obtain ⟨rfl, J2, rfl, h2⟩ := hv
  rw [eT] at h2 ⊢
  cases cw : isWd T e b' 19 with
  | false =>
    refine a_if_eq rfl (fun _ => ?_) (fun z => absurd rfl z)
    rw [if_neg (by rw [cw]; decide)] at h2
    refine a_s rfl rfl ?_
    rw [← es, loopP_f cw]
    exact a_zret rfl rfl rfl (QF.yes (Cf.rd C h2 (Cf.sk C)))
  | true =>
    refine a_if_eq rfl (fun z => absurd z (by decide)) (fun _ => ?_)
    rw [if_pos cw] at h2
    have n2 := nx_lt (T := T) (isWd_lt cw)
    have C2 : Cf T e n0 (nx T e b') o' I J2 (en T e b') := Cf.rd C h2 rfl
    have n2e := Cf.le C2
    have g4 := seqA_gd (T := T) (D := 0) (o := o') n2e
    refine a_l0 rfl rfl rfl ?_
    refine a_gV rfl lX12_213 mo_X12_readAllOf (h_readAllOf_6 hw hbt (Cf.tt C2 hT) (Cf.d C2 hd) (Cf.rf C2) (by omega)) rfl rfl rfl ⟨12, _, rfl, rfl, rfl⟩ rfl (fun v' h' hv => ?_)
    obtain ⟨rfl, J3, p3, rfl, hz3, hf3⟩ := hv
    have el := fun g => loopP_t (op := 2005) (o := o') (item := seqP T e (atomR T e 0) 20 2004) cw g
    have en' := loopP_n (op := 2005) (o := o') (item := seqP T e (atomR T e 0) 20 2004) cw
    rcases hr2 : (seqP T e (atomR T e 0) 20 2004) (nx T e b') o' with ⟨z2, b2, o2⟩
    rw [hr2] at hz3 hf3 g4 el en'
    cases z2 with
    | false =>
      refine a_if_ne rfl (fun z => absurd rfl z) (fun _ => ?_)
      refine a_s rfl rfl ?_
      rw [← es, en' Bool.false_ne_true]
      exact a_zret rfl rfl rfl (Cf.no C2 (hf3 rfl).1 (hf3 rfl).2)
    | true =>
      refine a_if_ne rfl (fun _ => ?_) (fun z => absurd (show (1 : Int32) = 0 from z) (by decide))
      have C3 : Cf T e n0 b2 o2 I J3 p3 := Cf.cc C2 (hz3 rfl)
      have c3e := Cf.le C3
      obtain ⟨-, -, g5⟩ := g4
      have g5 : nx T e b' < b2 ∧ o2.length + nx T e b' ≤ o'.length + b2 := g5 rfl
      have es2 : loopP T e (seqP T e (atomR T e 0) 20 2004) 19 2005 b2 (2005 :: o2) = R := (el (by show b' < b2; omega) rfl).symm.trans es
      refine a_l0 rfl rfl rfl ?_
      refine a_s rfl rfl ?_
      refine a_s rfl rfl ?_
      refine a_eV0 rfl lX12_180 mo_X12_emits (r_X12_emits (Cf.st C3) (by omega)) rfl rfl rfl ⟨12, _, rfl, rfl, rfl⟩ rfl ?_
      refine a_goto rfl ?_
      exact ih (e - b2) _ _ (by omega) ⟨rfl, _, p3, b2, _, rfl, Cf.em (z := 2005) C3 (by decide) (by decide), by show o2.length + 1 < b2; omega, es2, rfl⟩
theorem h_readAtom_5 (hw : WdS S) (hbt : BtT T) (hT : I 426 = T) (hd : I 420 13 = nI 5) (h : Cf T e n0 b o I I p) (hB : o.length < b) : Sp S m_X12_readAtom 23 0 0 [.ref 420] (hp I L w1 w2 t) (QF T e n0 (atomR T e 1 b o) I L w1 w2 t) nX := by
  have he4 := Cf.e4 h
  have hbe := Cf.le h
  refine Sp_of ok_X12_readAtom rfl rfl ?_
  show AW S m_X12_readAtom 23 _ _ 0 0 0 [some (.ref 420), none] [] (hp I L w1 w2 t)
  refine a_l0 rfl rfl rfl ?_
  refine a_s rfl rfl ?_
  refine a_gV rfl lX12_187 mo_X12_sign (h_sign (b := b) (c := 40) (by rw [hT]; exact hbt) (by decide) (Cf.pp h) (by rw [hT]; exact Cf.nb h)) rfl rfl rfl ⟨12, _, rfl, rfl, rfl⟩ rfl (fun v' h' hv => ?_)
  obtain ⟨rfl, J1, rfl, h1⟩ := hv
  rw [hT] at h1 ⊢
  cases c40 : sg T e b (nI 40) with
  | true =>
    have c40 : sg T e b 40 = true := c40
    refine a_if_eq rfl (fun z => absurd z (by decide)) (fun _ => ?_)
    rw [if_pos (show sg T e b (nI 40) = true from c40)] at h1
    have n1 := nx_lt (T := T) (sg_lt c40)
    have C1 : Cf T e n0 (nx T e b) o I J1 (en T e b) := Cf.rd h h1 rfl
    refine a_l0 rfl rfl rfl ?_
    refine a_geti rfl gfX12_194_12 rfl ?_
    refine a_top (y := nI 5) (Cf.d C1 hd) ?_
    refine a_s rfl rfl ?_
    refine a_ic_ne rfl (fun _ => ?_) (fun c => absurd c (by decide))
    refine a_l0 rfl rfl rfl ?_
    refine a_s rfl rfl ?_
    refine a_geti rfl gfX12_194_12 rfl ?_
    refine a_top (y := nI 5) (Cf.d C1 hd) ?_
    refine a_s rfl rfl ?_
    refine a_s rfl rfl ?_
    refine a_top (y := nI 6) (rfl) ?_
    refine a_puti rfl pfX12_194_12 rfl ?_
    refine a_l0 rfl rfl rfl ?_
    have g4 := cndP_gd (T := T) (fun b o h => atomR_gd (T := T) 0 b o h) (o := o) (Cf.le C1)
    refine a_gV rfl lX12_197 mo_X12_readCond (h_readCond_6 hw hbt ((up2_row (by decide)).trans (Cf.tt C1 hT)) up2_at (Cf.up13 C1) (by omega)) rfl rfl rfl ⟨12, _, rfl, rfl, rfl⟩ rfl (fun v' h' hv => ?_)
    obtain ⟨rfl, J9, p9, rfl, hz9, hf9⟩ := hv
    rw [show seqP T e (seqP T e (atomR T e 0) 20 2004) 19 2005 = cndP T e (atomR T e 0) from rfl] at hz9 hf9 ⊢
    rcases hr9 : cndP T e (atomR T e 0) (nx T e b) o with ⟨z9, b9, o9⟩
    rw [hr9] at hz9 hf9 g4
    rw [atomR_p c40 hr9]
    cases z9 with
    | false =>
      refine a_if_ne rfl (fun z => absurd rfl z) (fun _ => ?_)
      refine a_s rfl rfl ?_
      rw [if_neg (by decide)]
      exact a_zret rfl rfl rfl (QF.no (Fm.tr C1.1 (Fm.tr (Fm.up Fm.rf rfl) (hf9 rfl).1)) (hf9 rfl).2)
    | true =>
      refine a_if_ne rfl (fun _ => ?_) (fun z => absurd (show (1 : Int32) = 0 from z) (by decide))
      rw [if_pos rfl]
      have D9 : Cf T e n0 b9 o9 (up2 J1 420 13 (nI 6)) J9 p9 := hz9 rfl
      refine a_l0 rfl rfl rfl ?_
      refine a_s rfl rfl ?_
      refine a_geti rfl gfX12_194_12 rfl ?_
      refine a_top (y := nI 6) (D9.2.1.trans up2_at) ?_
      refine a_s rfl rfl ?_
      refine a_s rfl rfl ?_
      refine a_top (y := nI 5) (rfl) ?_
      refine a_puti rfl pfX12_194_12 rfl ?_
      have C9 := Cf.deep C1 hd D9
      have eT9 := Cf.tt C9 hT
      refine a_l0 rfl rfl rfl ?_
      refine a_s rfl rfl ?_
      refine a_gV rfl lX12_187 mo_X12_sign (h_sign (b := b9) (c := 41) (by rw [eT9]; exact hbt) (by decide) (Cf.pp C9) (by rw [eT9]; exact Cf.nb C9)) rfl rfl rfl ⟨12, _, rfl, rfl, rfl⟩ rfl (fun v' h' hv => ?_)
      obtain ⟨rfl, J3, rfl, h3⟩ := hv
      rw [eT9] at h3 ⊢
      cases c41 : sg T e b9 (nI 41) with
      | false =>
        have c41 : sg T e b9 41 = false := c41
        rw [if_neg (by rw [show sg T e b9 (nI 41) = false from c41]; decide)] at h3
        rw [if_neg (by rw [c41]; decide)]
        exact a_zret rfl rfl rfl (QF.no (Fm.tr C9.1 (Fm.mo (Rd.fm h3) sR_sY)) (Rd.be h3))
      | true =>
        have c41 : sg T e b9 41 = true := c41
        rw [if_pos (show sg T e b9 (nI 41) = true from c41)] at h3
        rw [if_pos c41]
        exact a_zret rfl rfl rfl (QF.yes (Cf.rd C9 h3 rfl))
  | false =>
  have c40 : sg T e b 40 = false := c40
  refine a_if_eq rfl (fun _ => ?_) (fun z => absurd rfl z)
  rw [if_neg (by rw [show sg T e b (nI 40) = false from c40]; decide)] at h1
  have C0 : Cf T e n0 b o I J1 b := Cf.rd h h1 (Cf.sk h)
  have eT0 := Cf.tt C0 hT
  refine a_l0 rfl rfl rfl ?_
  refine a_ldcs (q := 130 + 21) rfl (hw.ld (i := 21) (by decide)) ?_
  refine a_gV rfl lX12_128 mo_X12_passes (h_passes (b := b) (k := 21) hw (by decide) (Cf.pp C0) (by rw [eT0]; exact Cf.nb C0)) rfl rfl rfl ⟨12, _, rfl, rfl, rfl⟩ rfl (fun v' h' hv => ?_)
  obtain ⟨rfl, J2, rfl, h2⟩ := hv
  rw [eT0] at h2 ⊢
  cases c21 : isWd T e b 21 with
  | true =>
    refine a_if_eq rfl (fun z => absurd z (by decide)) (fun _ => ?_)
    rw [if_pos c21] at h2
    have n1 := nx_lt (T := T) (isWd_lt c21)
    have C2 : Cf T e n0 (nx T e b) o I J2 (en T e b) := Cf.rd C0 h2 rfl
    refine a_l0 rfl rfl rfl ?_
    refine a_geti rfl gfX12_194_12 rfl ?_
    refine a_top (y := nI 5) (Cf.d C2 hd) ?_
    refine a_s rfl rfl ?_
    refine a_ic_ne rfl (fun _ => ?_) (fun c => absurd c (by decide))
    refine a_l0 rfl rfl rfl ?_
    refine a_s rfl rfl ?_
    refine a_geti rfl gfX12_194_12 rfl ?_
    refine a_top (y := nI 5) (Cf.d C2 hd) ?_
    refine a_s rfl rfl ?_
    refine a_s rfl rfl ?_
    refine a_top (y := nI 6) (rfl) ?_
    refine a_puti rfl pfX12_194_12 rfl ?_
    refine a_l0 rfl rfl rfl ?_
    have g4 := atomR_gdo (T := T) (D := 0) (o := o) (Cf.le C2)
    refine a_gV rfl lX12_202 mo_X12_readAtom (h_readAtom_6 hw hbt ((up2_row (by decide)).trans (Cf.tt C2 hT)) up2_at (Cf.up13 C2) (by omega)) rfl rfl rfl ⟨12, _, rfl, rfl, rfl⟩ rfl (fun v' h' hv => ?_)
    obtain ⟨rfl, J9, p9, rfl, hz9, hf9⟩ := hv
    rcases hr9 : atomR T e 0 (nx T e b) o with ⟨z9, b9, o9⟩
    rw [hr9] at hz9 hf9 g4
    rw [atomR_n c40 c21 hr9]
    cases z9 with
    | false =>
      refine a_if_ne rfl (fun z => absurd rfl z) (fun _ => ?_)
      refine a_s rfl rfl ?_
      rw [if_neg (by decide)]
      exact a_zret rfl rfl rfl (QF.no (Fm.tr C2.1 (Fm.tr (Fm.up Fm.rf rfl) (hf9 rfl).1)) (hf9 rfl).2)
    | true =>
      refine a_if_ne rfl (fun _ => ?_) (fun z => absurd (show (1 : Int32) = 0 from z) (by decide))
      rw [if_pos rfl]
      have D9 : Cf T e n0 b9 o9 (up2 J2 420 13 (nI 6)) J9 p9 := hz9 rfl
      obtain ⟨-, -, g5⟩ := g4
      have g5 : nx T e b < b9 ∧ o9.length + nx T e b ≤ o.length + b9 := g5 rfl
      have c9e := Cf.le D9
      refine a_l0 rfl rfl rfl ?_
      refine a_s rfl rfl ?_
      refine a_geti rfl gfX12_194_12 rfl ?_
      refine a_top (y := nI 6) (D9.2.1.trans up2_at) ?_
      refine a_s rfl rfl ?_
      refine a_s rfl rfl ?_
      refine a_top (y := nI 5) (rfl) ?_
      refine a_puti rfl pfX12_194_12 rfl ?_
      have C9 := Cf.deep C2 hd D9
      refine a_l0 rfl rfl rfl ?_
      refine a_s rfl rfl ?_
      refine a_s rfl rfl ?_
      refine a_eV0 rfl lX12_180 mo_X12_emits (r_X12_emits (Cf.st C9) (by omega)) rfl rfl rfl ⟨12, _, rfl, rfl, rfl⟩ rfl ?_
      refine a_s rfl rfl ?_
      exact a_zret rfl rfl rfl (QF.yes (Cf.em (z := 2003) C9 (by decide) (by decide)))
  | false =>
  refine a_if_eq rfl (fun _ => ?_) (fun z => absurd rfl z)
  rw [if_neg (by rw [c21]; decide)] at h2
  have C2 : Cf T e n0 b o I J2 b := Cf.rd C0 h2 (Cf.sk C0)
  rw [atomR_b c40 c21]
  refine a_l0 rfl rfl rfl ?_
  refine a_gV rfl lX12_205 mo_X12_readTag (h_readTag hw (Cf.tt C2 hT) (Cf.rf C2) hB) rfl rfl rfl ⟨12, _, rfl, rfl, rfl⟩ rfl (fun v' h' hv => ?_)
  obtain ⟨z3, x3, J3, p3, rfl, rfl, ht3, hf3⟩ := hv
  cases z3 with
  | true =>
    refine a_if_eq rfl (fun z => absurd z (by decide)) (fun _ => ?_)
    refine a_s rfl rfl ?_
    obtain ⟨hx, D3⟩ := ht3 rfl
    rcases hx with ⟨c22, rfl⟩ | ⟨c22, c23, rfl⟩
    · rw [show baseP T e b o = (true, nx T e b, 1007 :: o) from if_pos c22]
      exact a_zret rfl rfl rfl (QF.yes (Cf.cc C2 D3))
    · rw [show baseP T e b o = (true, nx T e b, 1008 :: o) from (if_neg (by rw [c22]; decide)).trans (if_pos c23)]
      exact a_zret rfl rfl rfl (QF.yes (Cf.cc C2 D3))
  | false =>
  refine a_if_eq rfl (fun _ => ?_) (fun z => absurd rfl z)
  obtain ⟨⟨c22, c23⟩, D3⟩ := hf3 rfl
  have C3 := Cf.cc C2 D3
  have g4 := sumP_gd (T := T) (o := o) hbe
  refine a_l0 rfl rfl rfl ?_
  refine a_gV rfl lX12_208 mo_X12_readSum (h_readSum hw hbt (Cf.tt C3 hT) (Cf.rf C3) hB) rfl rfl rfl ⟨12, _, rfl, rfl, rfl⟩ rfl (fun v' h' hv => ?_)
  obtain ⟨rfl, J4, p4, rfl, hz4, hf4⟩ := hv
  rcases hr4 : sumP T e b o with ⟨z4, b4, o4⟩
  rw [baseP_s c22 c23 hr4]
  rw [hr4] at hz4 hf4 g4
  cases z4 with
  | false =>
    refine a_if_ne rfl (fun z => absurd rfl z) (fun _ => ?_)
    refine a_s rfl rfl ?_
    rw [if_neg (by decide)]
    exact a_zret rfl rfl rfl (Cf.no C3 (hf4 rfl).1 (hf4 rfl).2)
  | true =>
  refine a_if_ne rfl (fun _ => ?_) (fun z => absurd (show (1 : Int32) = 0 from z) (by decide))
  rw [if_pos rfl]
  have C4 : Cf T e n0 b4 o4 I J4 p4 := Cf.cc C3 (hz4 rfl)
  obtain ⟨-, -, g4⟩ := g4
  have g4 : b < b4 ∧ o4.length + b ≤ o.length + b4 := g4 rfl
  have key : ∀ {z5 : Bool} {x : Int32} {p' : Nat} {J : Nat → Nat → Int32}, b4 < nx T e b4 → x = (if z5 = true then 2001 else 2002) → Cf T e n0 (nx T e b4) o4 I J p' → AW S m_X12_readAtom 23 (QF T e n0 (cmpP T e x (nx T e b4) o4) I L w1 w2 t) nX 0 0 152 [some (.ref 420), some (.int (bI z5))] [] (hp J L w1 w2 t) := by
    intro z5 x p' J n4 hx C
    have g6 := sumP_gd (T := T) (o := o4) (Cf.le C)
    refine a_l0 rfl rfl rfl ?_
    refine a_gV rfl lX12_208 mo_X12_readSum (h_readSum hw hbt (Cf.tt C hT) (Cf.rf C) (by omega)) rfl rfl rfl ⟨12, _, rfl, rfl, rfl⟩ rfl (fun v' h' hv => ?_)
    obtain ⟨rfl, J6, p6, rfl, hz6, hf6⟩ := hv
    rcases hr6 : sumP T e (nx T e b4) o4 with ⟨z6, b6, o6⟩
    rw [hr6] at hz6 hf6 g6
    cases z6 with
    | false =>
      refine a_if_ne rfl (fun z => absurd rfl z) (fun _ => ?_)
      refine a_s rfl rfl ?_
      rw [cmpP_f hr6]
      exact a_zret rfl rfl rfl (Cf.no C (hf6 rfl).1 (hf6 rfl).2)
    | true =>
      refine a_if_ne rfl (fun _ => ?_) (fun z => absurd (show (1 : Int32) = 0 from z) (by decide))
      rw [cmpP_t hr6]
      have C6 : Cf T e n0 b6 o6 I J6 p6 := Cf.cc C (hz6 rfl)
      have c6e := Cf.le C6
      obtain ⟨-, -, g6⟩ := g6
      have g6 : nx T e b4 < b6 ∧ o6.length + nx T e b4 ≤ o4.length + b6 := g6 rfl
      refine a_l0 rfl rfl rfl ?_
      refine a_l1 rfl rfl rfl ?_
      cases z5 with
      | false =>
        rw [if_neg (by decide)] at hx
        subst hx
        refine a_if_eq rfl (fun _ => ?_) (fun c => absurd rfl c)
        refine a_s rfl rfl ?_
        refine a_s rfl rfl ?_
        refine a_eV0 rfl lX12_180 mo_X12_emits (r_X12_emits (Cf.st C6) (by omega)) rfl rfl rfl ⟨12, _, rfl, rfl, rfl⟩ rfl ?_
        refine a_s rfl rfl ?_
        exact a_zret rfl rfl rfl (QF.yes (Cf.em (z := 2002) C6 (by decide) (by decide)))
      | true =>
        rw [if_pos rfl] at hx
        subst hx
        refine a_if_eq rfl (fun c => absurd c (by decide)) (fun _ => ?_)
        refine a_s rfl rfl ?_
        refine a_goto rfl ?_
        refine a_s rfl rfl ?_
        refine a_eV0 rfl lX12_180 mo_X12_emits (r_X12_emits (Cf.st C6) (by omega)) rfl rfl rfl ⟨12, _, rfl, rfl, rfl⟩ rfl ?_
        refine a_s rfl rfl ?_
        exact a_zret rfl rfl rfl (QF.yes (Cf.em (z := 2001) C6 (by decide) (by decide)))
  have eT4 := Cf.tt C4 hT
  refine a_l0 rfl rfl rfl ?_
  refine a_s rfl rfl ?_
  refine a_gV rfl lX12_187 mo_X12_sign (h_sign (b := b4) (c := 60) (by rw [eT4]; exact hbt) (by decide) (Cf.pp C4) (by rw [eT4]; exact Cf.nb C4)) rfl rfl rfl ⟨12, _, rfl, rfl, rfl⟩ rfl (fun v' h' hv => ?_)
  obtain ⟨rfl, J5, rfl, h5⟩ := hv
  rw [eT4] at h5 ⊢
  refine a_s1 rfl rfl rfl rfl rfl rfl ?_
  refine a_l1 rfl rfl rfl ?_
  cases c60 : sg T e b4 (nI 60) with
  | true =>
    have c60 : sg T e b4 60 = true := c60
    refine a_if_ne rfl (fun _ => ?_) (fun z => absurd (show (1 : Int32) = 0 from z) (by decide))
    rw [if_pos (show sg T e b4 (nI 60) = true from c60)] at h5
    rw [if_pos c60]
    exact key (z5 := true) (nx_lt (sg_lt c60)) rfl (Cf.rd C4 h5 rfl)
  | false =>
  have c60 : sg T e b4 60 = false := c60
  refine a_if_ne rfl (fun z => absurd rfl z) (fun _ => ?_)
  rw [if_neg (by rw [show sg T e b4 (nI 60) = false from c60]; decide)] at h5
  rw [if_neg (by rw [c60]; decide)]
  have C5 : Cf T e n0 b4 o4 I J5 b4 := Cf.rd C4 h5 (Cf.sk C4)
  have eT5 := Cf.tt C5 hT
  refine a_l0 rfl rfl rfl ?_
  refine a_s rfl rfl ?_
  refine a_gV rfl lX12_187 mo_X12_sign (h_sign (b := b4) (c := 62) (by rw [eT5]; exact hbt) (by decide) (Cf.pp C5) (by rw [eT5]; exact Cf.nb C5)) rfl rfl rfl ⟨12, _, rfl, rfl, rfl⟩ rfl (fun v' h' hv => ?_)
  obtain ⟨rfl, J7, rfl, h7⟩ := hv
  rw [eT5] at h7 ⊢
  cases c62 : sg T e b4 (nI 62) with
  | false =>
    have c62 : sg T e b4 62 = false := c62
    refine a_if_eq rfl (fun _ => ?_) (fun z => absurd rfl z)
    rw [if_neg (by rw [show sg T e b4 (nI 62) = false from c62]; decide)] at h7
    rw [if_neg (by rw [c62]; decide)]
    refine a_s rfl rfl ?_
    exact a_zret rfl rfl rfl (QF.no (Fm.tr C5.1 (Fm.mo (Rd.fm h7) sR_sY)) (Rd.be h7))
  | true =>
    have c62 : sg T e b4 62 = true := c62
    refine a_if_eq rfl (fun z => absurd z (by decide)) (fun _ => ?_)
    rw [if_pos (show sg T e b4 (nI 62) = true from c62)] at h7
    rw [if_pos c62]
    exact key (z5 := false) (nx_lt (sg_lt c62)) rfl (Cf.rd C5 h7 rfl)
theorem h_readAllOf_5 (hw : WdS S) (hbt : BtT T) (hT : I 426 = T) (hd : I 420 13 = nI 5) (h : Cf T e n0 b o I I p) (hB : o.length < b) : Sp S m_X12_readAllOf 24 0 0 [.ref 420] (hp I L w1 w2 t) (QF T e n0 (seqP T e (atomR T e 1) 20 2004 b o) I L w1 w2 t) nX := by
  have he4 := Cf.e4 h
  have g0 := atomR_gdo (T := T) (D := 1) (o := o) (Cf.le h)
  refine Sp_of ok_X12_readAllOf rfl rfl ?_
  show AW S m_X12_readAllOf 24 _ _ 0 0 0 [some (.ref 420)] [] (hp I L w1 w2 t)
  refine a_l0 rfl rfl rfl ?_
  refine a_gV rfl lX12_202 mo_X12_readAtom (h_readAtom_5 hw hbt hT hd h hB) rfl rfl rfl ⟨12, _, rfl, rfl, rfl⟩ rfl (fun v' h' hv => ?_)
  obtain ⟨rfl, J1, p1, rfl, hz1, hf1⟩ := hv
  rcases hr : (atomR T e 1) b o with ⟨z, b1, o1⟩
  rw [seqP_of hr]
  rw [hr] at hz1 hf1 g0
  cases z with
  | false =>
    refine a_if_ne rfl (fun z => absurd rfl z) (fun _ => ?_)
    refine a_s rfl rfl ?_
    rw [if_neg (by decide)]
    exact a_zret rfl rfl rfl (QF.no (hf1 rfl).1 (hf1 rfl).2)
  | true =>
  refine a_if_ne rfl (fun _ => ?_) (fun z => absurd (show (1 : Int32) = 0 from z) (by decide))
  rw [if_pos rfl]
  obtain ⟨-, -, g3⟩ := g0
  have g3 : b < b1 ∧ o1.length + b ≤ o.length + b1 := g3 rfl
  generalize hR : loopP T e (atomR T e 1) 20 2004 b1 o1 = R
  refine a_inv (n := e - b1) (fun m ls h => ls = [some (.ref 420)] ∧ ∃ J p' b' o', h = hp J L w1 w2 t ∧ Cf T e n0 b' o' I J p' ∧ o'.length < b' ∧ loopP T e (atomR T e 1) 20 2004 b' o' = R ∧ m = e - b') ⟨rfl, J1, p1, _, _, rfl, hz1 rfl, by show o1.length < b1; omega, hR, rfl⟩ ?_
  rintro m _ _ ⟨rfl, J, p', b', o', rfl, C, hB', es, hm⟩ ih
  have eT := Cf.tt C hT
  refine a_l0 rfl rfl rfl ?_
  refine a_ldcs (q := 130 + 20) rfl (hw.ld (i := 20) (by decide)) ?_
  refine a_gV rfl lX12_128 mo_X12_passes (h_passes (b := b') (k := 20) hw (by decide) (Cf.pp C) (by rw [eT]; exact Cf.nb C)) rfl rfl rfl ⟨12, _, rfl, rfl, rfl⟩ rfl (fun v' h' hv => ?_)
  obtain ⟨rfl, J2, rfl, h2⟩ := hv
  rw [eT] at h2 ⊢
  cases cw : isWd T e b' 20 with
  | false =>
    refine a_if_eq rfl (fun _ => ?_) (fun z => absurd rfl z)
    rw [if_neg (by rw [cw]; decide)] at h2
    refine a_s rfl rfl ?_
    rw [← es, loopP_f cw]
    exact a_zret rfl rfl rfl (QF.yes (Cf.rd C h2 (Cf.sk C)))
  | true =>
    refine a_if_eq rfl (fun z => absurd z (by decide)) (fun _ => ?_)
    rw [if_pos cw] at h2
    have n2 := nx_lt (T := T) (isWd_lt cw)
    have C2 : Cf T e n0 (nx T e b') o' I J2 (en T e b') := Cf.rd C h2 rfl
    have n2e := Cf.le C2
    have g4 := atomR_gdo (T := T) (D := 1) (o := o') n2e
    refine a_l0 rfl rfl rfl ?_
    refine a_gV rfl lX12_202 mo_X12_readAtom (h_readAtom_5 hw hbt (Cf.tt C2 hT) (Cf.d C2 hd) (Cf.rf C2) (by omega)) rfl rfl rfl ⟨12, _, rfl, rfl, rfl⟩ rfl (fun v' h' hv => ?_)
    obtain ⟨rfl, J3, p3, rfl, hz3, hf3⟩ := hv
    have el := fun g => loopP_t (op := 2004) (o := o') (item := atomR T e 1) cw g
    have en' := loopP_n (op := 2004) (o := o') (item := atomR T e 1) cw
    rcases hr2 : (atomR T e 1) (nx T e b') o' with ⟨z2, b2, o2⟩
    rw [hr2] at hz3 hf3 g4 el en'
    cases z2 with
    | false =>
      refine a_if_ne rfl (fun z => absurd rfl z) (fun _ => ?_)
      refine a_s rfl rfl ?_
      rw [← es, en' Bool.false_ne_true]
      exact a_zret rfl rfl rfl (Cf.no C2 (hf3 rfl).1 (hf3 rfl).2)
    | true =>
      refine a_if_ne rfl (fun _ => ?_) (fun z => absurd (show (1 : Int32) = 0 from z) (by decide))
      have C3 : Cf T e n0 b2 o2 I J3 p3 := Cf.cc C2 (hz3 rfl)
      have c3e := Cf.le C3
      obtain ⟨-, -, g5⟩ := g4
      have g5 : nx T e b' < b2 ∧ o2.length + nx T e b' ≤ o'.length + b2 := g5 rfl
      have es2 : loopP T e (atomR T e 1) 20 2004 b2 (2004 :: o2) = R := (el (by show b' < b2; omega) rfl).symm.trans es
      refine a_l0 rfl rfl rfl ?_
      refine a_s rfl rfl ?_
      refine a_s rfl rfl ?_
      refine a_eV0 rfl lX12_180 mo_X12_emits (r_X12_emits (Cf.st C3) (by omega)) rfl rfl rfl ⟨12, _, rfl, rfl, rfl⟩ rfl ?_
      refine a_goto rfl ?_
      exact ih (e - b2) _ _ (by omega) ⟨rfl, _, p3, b2, _, rfl, Cf.em (z := 2004) C3 (by decide) (by decide), by show o2.length + 1 < b2; omega, es2, rfl⟩
theorem h_readCond_5 (hw : WdS S) (hbt : BtT T) (hT : I 426 = T) (hd : I 420 13 = nI 5) (h : Cf T e n0 b o I I p) (hB : o.length < b) : Sp S m_X12_readCond 25 0 0 [.ref 420] (hp I L w1 w2 t) (QF T e n0 (seqP T e (seqP T e (atomR T e 1) 20 2004) 19 2005 b o) I L w1 w2 t) nX := by
  have he4 := Cf.e4 h
  have g0 := seqA_gd (T := T) (D := 1) (o := o) (Cf.le h)
  refine Sp_of ok_X12_readCond rfl rfl ?_
  show AW S m_X12_readCond 25 _ _ 0 0 0 [some (.ref 420)] [] (hp I L w1 w2 t)
  refine a_l0 rfl rfl rfl ?_
  refine a_gV rfl lX12_213 mo_X12_readAllOf (h_readAllOf_5 hw hbt hT hd h hB) rfl rfl rfl ⟨12, _, rfl, rfl, rfl⟩ rfl (fun v' h' hv => ?_)
  obtain ⟨rfl, J1, p1, rfl, hz1, hf1⟩ := hv
  rcases hr : (seqP T e (atomR T e 1) 20 2004) b o with ⟨z, b1, o1⟩
  rw [seqP_of hr]
  rw [hr] at hz1 hf1 g0
  cases z with
  | false =>
    refine a_if_ne rfl (fun z => absurd rfl z) (fun _ => ?_)
    refine a_s rfl rfl ?_
    rw [if_neg (by decide)]
    exact a_zret rfl rfl rfl (QF.no (hf1 rfl).1 (hf1 rfl).2)
  | true =>
  refine a_if_ne rfl (fun _ => ?_) (fun z => absurd (show (1 : Int32) = 0 from z) (by decide))
  rw [if_pos rfl]
  obtain ⟨-, -, g3⟩ := g0
  have g3 : b < b1 ∧ o1.length + b ≤ o.length + b1 := g3 rfl
  generalize hR : loopP T e (seqP T e (atomR T e 1) 20 2004) 19 2005 b1 o1 = R
  refine a_inv (n := e - b1) (fun m ls h => ls = [some (.ref 420)] ∧ ∃ J p' b' o', h = hp J L w1 w2 t ∧ Cf T e n0 b' o' I J p' ∧ o'.length < b' ∧ loopP T e (seqP T e (atomR T e 1) 20 2004) 19 2005 b' o' = R ∧ m = e - b') ⟨rfl, J1, p1, _, _, rfl, hz1 rfl, by show o1.length < b1; omega, hR, rfl⟩ ?_
  rintro m _ _ ⟨rfl, J, p', b', o', rfl, C, hB', es, hm⟩ ih
  have eT := Cf.tt C hT
  refine a_l0 rfl rfl rfl ?_
  refine a_ldcs (q := 130 + 19) rfl (hw.ld (i := 19) (by decide)) ?_
  refine a_gV rfl lX12_128 mo_X12_passes (h_passes (b := b') (k := 19) hw (by decide) (Cf.pp C) (by rw [eT]; exact Cf.nb C)) rfl rfl rfl ⟨12, _, rfl, rfl, rfl⟩ rfl (fun v' h' hv => ?_)
  obtain ⟨rfl, J2, rfl, h2⟩ := hv
  rw [eT] at h2 ⊢
  cases cw : isWd T e b' 19 with
  | false =>
    refine a_if_eq rfl (fun _ => ?_) (fun z => absurd rfl z)
    rw [if_neg (by rw [cw]; decide)] at h2
    refine a_s rfl rfl ?_
    rw [← es, loopP_f cw]
    exact a_zret rfl rfl rfl (QF.yes (Cf.rd C h2 (Cf.sk C)))
  | true =>
    refine a_if_eq rfl (fun z => absurd z (by decide)) (fun _ => ?_)
    rw [if_pos cw] at h2
    have n2 := nx_lt (T := T) (isWd_lt cw)
    have C2 : Cf T e n0 (nx T e b') o' I J2 (en T e b') := Cf.rd C h2 rfl
    have n2e := Cf.le C2
    have g4 := seqA_gd (T := T) (D := 1) (o := o') n2e
    refine a_l0 rfl rfl rfl ?_
    refine a_gV rfl lX12_213 mo_X12_readAllOf (h_readAllOf_5 hw hbt (Cf.tt C2 hT) (Cf.d C2 hd) (Cf.rf C2) (by omega)) rfl rfl rfl ⟨12, _, rfl, rfl, rfl⟩ rfl (fun v' h' hv => ?_)
    obtain ⟨rfl, J3, p3, rfl, hz3, hf3⟩ := hv
    have el := fun g => loopP_t (op := 2005) (o := o') (item := seqP T e (atomR T e 1) 20 2004) cw g
    have en' := loopP_n (op := 2005) (o := o') (item := seqP T e (atomR T e 1) 20 2004) cw
    rcases hr2 : (seqP T e (atomR T e 1) 20 2004) (nx T e b') o' with ⟨z2, b2, o2⟩
    rw [hr2] at hz3 hf3 g4 el en'
    cases z2 with
    | false =>
      refine a_if_ne rfl (fun z => absurd rfl z) (fun _ => ?_)
      refine a_s rfl rfl ?_
      rw [← es, en' Bool.false_ne_true]
      exact a_zret rfl rfl rfl (Cf.no C2 (hf3 rfl).1 (hf3 rfl).2)
    | true =>
      refine a_if_ne rfl (fun _ => ?_) (fun z => absurd (show (1 : Int32) = 0 from z) (by decide))
      have C3 : Cf T e n0 b2 o2 I J3 p3 := Cf.cc C2 (hz3 rfl)
      have c3e := Cf.le C3
      obtain ⟨-, -, g5⟩ := g4
      have g5 : nx T e b' < b2 ∧ o2.length + nx T e b' ≤ o'.length + b2 := g5 rfl
      have es2 : loopP T e (seqP T e (atomR T e 1) 20 2004) 19 2005 b2 (2005 :: o2) = R := (el (by show b' < b2; omega) rfl).symm.trans es
      refine a_l0 rfl rfl rfl ?_
      refine a_s rfl rfl ?_
      refine a_s rfl rfl ?_
      refine a_eV0 rfl lX12_180 mo_X12_emits (r_X12_emits (Cf.st C3) (by omega)) rfl rfl rfl ⟨12, _, rfl, rfl, rfl⟩ rfl ?_
      refine a_goto rfl ?_
      exact ih (e - b2) _ _ (by omega) ⟨rfl, _, p3, b2, _, rfl, Cf.em (z := 2005) C3 (by decide) (by decide), by show o2.length + 1 < b2; omega, es2, rfl⟩
theorem h_readAtom_4 (hw : WdS S) (hbt : BtT T) (hT : I 426 = T) (hd : I 420 13 = nI 4) (h : Cf T e n0 b o I I p) (hB : o.length < b) : Sp S m_X12_readAtom 26 0 0 [.ref 420] (hp I L w1 w2 t) (QF T e n0 (atomR T e 2 b o) I L w1 w2 t) nX := by
  have he4 := Cf.e4 h
  have hbe := Cf.le h
  refine Sp_of ok_X12_readAtom rfl rfl ?_
  show AW S m_X12_readAtom 26 _ _ 0 0 0 [some (.ref 420), none] [] (hp I L w1 w2 t)
  refine a_l0 rfl rfl rfl ?_
  refine a_s rfl rfl ?_
  refine a_gV rfl lX12_187 mo_X12_sign (h_sign (b := b) (c := 40) (by rw [hT]; exact hbt) (by decide) (Cf.pp h) (by rw [hT]; exact Cf.nb h)) rfl rfl rfl ⟨12, _, rfl, rfl, rfl⟩ rfl (fun v' h' hv => ?_)
  obtain ⟨rfl, J1, rfl, h1⟩ := hv
  rw [hT] at h1 ⊢
  cases c40 : sg T e b (nI 40) with
  | true =>
    have c40 : sg T e b 40 = true := c40
    refine a_if_eq rfl (fun z => absurd z (by decide)) (fun _ => ?_)
    rw [if_pos (show sg T e b (nI 40) = true from c40)] at h1
    have n1 := nx_lt (T := T) (sg_lt c40)
    have C1 : Cf T e n0 (nx T e b) o I J1 (en T e b) := Cf.rd h h1 rfl
    refine a_l0 rfl rfl rfl ?_
    refine a_geti rfl gfX12_194_12 rfl ?_
    refine a_top (y := nI 4) (Cf.d C1 hd) ?_
    refine a_s rfl rfl ?_
    refine a_ic_ne rfl (fun _ => ?_) (fun c => absurd c (by decide))
    refine a_l0 rfl rfl rfl ?_
    refine a_s rfl rfl ?_
    refine a_geti rfl gfX12_194_12 rfl ?_
    refine a_top (y := nI 4) (Cf.d C1 hd) ?_
    refine a_s rfl rfl ?_
    refine a_s rfl rfl ?_
    refine a_top (y := nI 5) (rfl) ?_
    refine a_puti rfl pfX12_194_12 rfl ?_
    refine a_l0 rfl rfl rfl ?_
    have g4 := cndP_gd (T := T) (fun b o h => atomR_gd (T := T) 1 b o h) (o := o) (Cf.le C1)
    refine a_gV rfl lX12_197 mo_X12_readCond (h_readCond_5 hw hbt ((up2_row (by decide)).trans (Cf.tt C1 hT)) up2_at (Cf.up13 C1) (by omega)) rfl rfl rfl ⟨12, _, rfl, rfl, rfl⟩ rfl (fun v' h' hv => ?_)
    obtain ⟨rfl, J9, p9, rfl, hz9, hf9⟩ := hv
    rw [show seqP T e (seqP T e (atomR T e 1) 20 2004) 19 2005 = cndP T e (atomR T e 1) from rfl] at hz9 hf9 ⊢
    rcases hr9 : cndP T e (atomR T e 1) (nx T e b) o with ⟨z9, b9, o9⟩
    rw [hr9] at hz9 hf9 g4
    rw [atomR_p c40 hr9]
    cases z9 with
    | false =>
      refine a_if_ne rfl (fun z => absurd rfl z) (fun _ => ?_)
      refine a_s rfl rfl ?_
      rw [if_neg (by decide)]
      exact a_zret rfl rfl rfl (QF.no (Fm.tr C1.1 (Fm.tr (Fm.up Fm.rf rfl) (hf9 rfl).1)) (hf9 rfl).2)
    | true =>
      refine a_if_ne rfl (fun _ => ?_) (fun z => absurd (show (1 : Int32) = 0 from z) (by decide))
      rw [if_pos rfl]
      have D9 : Cf T e n0 b9 o9 (up2 J1 420 13 (nI 5)) J9 p9 := hz9 rfl
      refine a_l0 rfl rfl rfl ?_
      refine a_s rfl rfl ?_
      refine a_geti rfl gfX12_194_12 rfl ?_
      refine a_top (y := nI 5) (D9.2.1.trans up2_at) ?_
      refine a_s rfl rfl ?_
      refine a_s rfl rfl ?_
      refine a_top (y := nI 4) (rfl) ?_
      refine a_puti rfl pfX12_194_12 rfl ?_
      have C9 := Cf.deep C1 hd D9
      have eT9 := Cf.tt C9 hT
      refine a_l0 rfl rfl rfl ?_
      refine a_s rfl rfl ?_
      refine a_gV rfl lX12_187 mo_X12_sign (h_sign (b := b9) (c := 41) (by rw [eT9]; exact hbt) (by decide) (Cf.pp C9) (by rw [eT9]; exact Cf.nb C9)) rfl rfl rfl ⟨12, _, rfl, rfl, rfl⟩ rfl (fun v' h' hv => ?_)
      obtain ⟨rfl, J3, rfl, h3⟩ := hv
      rw [eT9] at h3 ⊢
      cases c41 : sg T e b9 (nI 41) with
      | false =>
        have c41 : sg T e b9 41 = false := c41
        rw [if_neg (by rw [show sg T e b9 (nI 41) = false from c41]; decide)] at h3
        rw [if_neg (by rw [c41]; decide)]
        exact a_zret rfl rfl rfl (QF.no (Fm.tr C9.1 (Fm.mo (Rd.fm h3) sR_sY)) (Rd.be h3))
      | true =>
        have c41 : sg T e b9 41 = true := c41
        rw [if_pos (show sg T e b9 (nI 41) = true from c41)] at h3
        rw [if_pos c41]
        exact a_zret rfl rfl rfl (QF.yes (Cf.rd C9 h3 rfl))
  | false =>
  have c40 : sg T e b 40 = false := c40
  refine a_if_eq rfl (fun _ => ?_) (fun z => absurd rfl z)
  rw [if_neg (by rw [show sg T e b (nI 40) = false from c40]; decide)] at h1
  have C0 : Cf T e n0 b o I J1 b := Cf.rd h h1 (Cf.sk h)
  have eT0 := Cf.tt C0 hT
  refine a_l0 rfl rfl rfl ?_
  refine a_ldcs (q := 130 + 21) rfl (hw.ld (i := 21) (by decide)) ?_
  refine a_gV rfl lX12_128 mo_X12_passes (h_passes (b := b) (k := 21) hw (by decide) (Cf.pp C0) (by rw [eT0]; exact Cf.nb C0)) rfl rfl rfl ⟨12, _, rfl, rfl, rfl⟩ rfl (fun v' h' hv => ?_)
  obtain ⟨rfl, J2, rfl, h2⟩ := hv
  rw [eT0] at h2 ⊢
  cases c21 : isWd T e b 21 with
  | true =>
    refine a_if_eq rfl (fun z => absurd z (by decide)) (fun _ => ?_)
    rw [if_pos c21] at h2
    have n1 := nx_lt (T := T) (isWd_lt c21)
    have C2 : Cf T e n0 (nx T e b) o I J2 (en T e b) := Cf.rd C0 h2 rfl
    refine a_l0 rfl rfl rfl ?_
    refine a_geti rfl gfX12_194_12 rfl ?_
    refine a_top (y := nI 4) (Cf.d C2 hd) ?_
    refine a_s rfl rfl ?_
    refine a_ic_ne rfl (fun _ => ?_) (fun c => absurd c (by decide))
    refine a_l0 rfl rfl rfl ?_
    refine a_s rfl rfl ?_
    refine a_geti rfl gfX12_194_12 rfl ?_
    refine a_top (y := nI 4) (Cf.d C2 hd) ?_
    refine a_s rfl rfl ?_
    refine a_s rfl rfl ?_
    refine a_top (y := nI 5) (rfl) ?_
    refine a_puti rfl pfX12_194_12 rfl ?_
    refine a_l0 rfl rfl rfl ?_
    have g4 := atomR_gdo (T := T) (D := 1) (o := o) (Cf.le C2)
    refine a_gV rfl lX12_202 mo_X12_readAtom (h_readAtom_5 hw hbt ((up2_row (by decide)).trans (Cf.tt C2 hT)) up2_at (Cf.up13 C2) (by omega)) rfl rfl rfl ⟨12, _, rfl, rfl, rfl⟩ rfl (fun v' h' hv => ?_)
    obtain ⟨rfl, J9, p9, rfl, hz9, hf9⟩ := hv
    rcases hr9 : atomR T e 1 (nx T e b) o with ⟨z9, b9, o9⟩
    rw [hr9] at hz9 hf9 g4
    rw [atomR_n c40 c21 hr9]
    cases z9 with
    | false =>
      refine a_if_ne rfl (fun z => absurd rfl z) (fun _ => ?_)
      refine a_s rfl rfl ?_
      rw [if_neg (by decide)]
      exact a_zret rfl rfl rfl (QF.no (Fm.tr C2.1 (Fm.tr (Fm.up Fm.rf rfl) (hf9 rfl).1)) (hf9 rfl).2)
    | true =>
      refine a_if_ne rfl (fun _ => ?_) (fun z => absurd (show (1 : Int32) = 0 from z) (by decide))
      rw [if_pos rfl]
      have D9 : Cf T e n0 b9 o9 (up2 J2 420 13 (nI 5)) J9 p9 := hz9 rfl
      obtain ⟨-, -, g5⟩ := g4
      have g5 : nx T e b < b9 ∧ o9.length + nx T e b ≤ o.length + b9 := g5 rfl
      have c9e := Cf.le D9
      refine a_l0 rfl rfl rfl ?_
      refine a_s rfl rfl ?_
      refine a_geti rfl gfX12_194_12 rfl ?_
      refine a_top (y := nI 5) (D9.2.1.trans up2_at) ?_
      refine a_s rfl rfl ?_
      refine a_s rfl rfl ?_
      refine a_top (y := nI 4) (rfl) ?_
      refine a_puti rfl pfX12_194_12 rfl ?_
      have C9 := Cf.deep C2 hd D9
      refine a_l0 rfl rfl rfl ?_
      refine a_s rfl rfl ?_
      refine a_s rfl rfl ?_
      refine a_eV0 rfl lX12_180 mo_X12_emits (r_X12_emits (Cf.st C9) (by omega)) rfl rfl rfl ⟨12, _, rfl, rfl, rfl⟩ rfl ?_
      refine a_s rfl rfl ?_
      exact a_zret rfl rfl rfl (QF.yes (Cf.em (z := 2003) C9 (by decide) (by decide)))
  | false =>
  refine a_if_eq rfl (fun _ => ?_) (fun z => absurd rfl z)
  rw [if_neg (by rw [c21]; decide)] at h2
  have C2 : Cf T e n0 b o I J2 b := Cf.rd C0 h2 (Cf.sk C0)
  rw [atomR_b c40 c21]
  refine a_l0 rfl rfl rfl ?_
  refine a_gV rfl lX12_205 mo_X12_readTag (h_readTag hw (Cf.tt C2 hT) (Cf.rf C2) hB) rfl rfl rfl ⟨12, _, rfl, rfl, rfl⟩ rfl (fun v' h' hv => ?_)
  obtain ⟨z3, x3, J3, p3, rfl, rfl, ht3, hf3⟩ := hv
  cases z3 with
  | true =>
    refine a_if_eq rfl (fun z => absurd z (by decide)) (fun _ => ?_)
    refine a_s rfl rfl ?_
    obtain ⟨hx, D3⟩ := ht3 rfl
    rcases hx with ⟨c22, rfl⟩ | ⟨c22, c23, rfl⟩
    · rw [show baseP T e b o = (true, nx T e b, 1007 :: o) from if_pos c22]
      exact a_zret rfl rfl rfl (QF.yes (Cf.cc C2 D3))
    · rw [show baseP T e b o = (true, nx T e b, 1008 :: o) from (if_neg (by rw [c22]; decide)).trans (if_pos c23)]
      exact a_zret rfl rfl rfl (QF.yes (Cf.cc C2 D3))
  | false =>
  refine a_if_eq rfl (fun _ => ?_) (fun z => absurd rfl z)
  obtain ⟨⟨c22, c23⟩, D3⟩ := hf3 rfl
  have C3 := Cf.cc C2 D3
  have g4 := sumP_gd (T := T) (o := o) hbe
  refine a_l0 rfl rfl rfl ?_
  refine a_gV rfl lX12_208 mo_X12_readSum (h_readSum hw hbt (Cf.tt C3 hT) (Cf.rf C3) hB) rfl rfl rfl ⟨12, _, rfl, rfl, rfl⟩ rfl (fun v' h' hv => ?_)
  obtain ⟨rfl, J4, p4, rfl, hz4, hf4⟩ := hv
  rcases hr4 : sumP T e b o with ⟨z4, b4, o4⟩
  rw [baseP_s c22 c23 hr4]
  rw [hr4] at hz4 hf4 g4
  cases z4 with
  | false =>
    refine a_if_ne rfl (fun z => absurd rfl z) (fun _ => ?_)
    refine a_s rfl rfl ?_
    rw [if_neg (by decide)]
    exact a_zret rfl rfl rfl (Cf.no C3 (hf4 rfl).1 (hf4 rfl).2)
  | true =>
  refine a_if_ne rfl (fun _ => ?_) (fun z => absurd (show (1 : Int32) = 0 from z) (by decide))
  rw [if_pos rfl]
  have C4 : Cf T e n0 b4 o4 I J4 p4 := Cf.cc C3 (hz4 rfl)
  obtain ⟨-, -, g4⟩ := g4
  have g4 : b < b4 ∧ o4.length + b ≤ o.length + b4 := g4 rfl
  have key : ∀ {z5 : Bool} {x : Int32} {p' : Nat} {J : Nat → Nat → Int32}, b4 < nx T e b4 → x = (if z5 = true then 2001 else 2002) → Cf T e n0 (nx T e b4) o4 I J p' → AW S m_X12_readAtom 26 (QF T e n0 (cmpP T e x (nx T e b4) o4) I L w1 w2 t) nX 0 0 152 [some (.ref 420), some (.int (bI z5))] [] (hp J L w1 w2 t) := by
    intro z5 x p' J n4 hx C
    have g6 := sumP_gd (T := T) (o := o4) (Cf.le C)
    refine a_l0 rfl rfl rfl ?_
    refine a_gV rfl lX12_208 mo_X12_readSum (h_readSum hw hbt (Cf.tt C hT) (Cf.rf C) (by omega)) rfl rfl rfl ⟨12, _, rfl, rfl, rfl⟩ rfl (fun v' h' hv => ?_)
    obtain ⟨rfl, J6, p6, rfl, hz6, hf6⟩ := hv
    rcases hr6 : sumP T e (nx T e b4) o4 with ⟨z6, b6, o6⟩
    rw [hr6] at hz6 hf6 g6
    cases z6 with
    | false =>
      refine a_if_ne rfl (fun z => absurd rfl z) (fun _ => ?_)
      refine a_s rfl rfl ?_
      rw [cmpP_f hr6]
      exact a_zret rfl rfl rfl (Cf.no C (hf6 rfl).1 (hf6 rfl).2)
    | true =>
      refine a_if_ne rfl (fun _ => ?_) (fun z => absurd (show (1 : Int32) = 0 from z) (by decide))
      rw [cmpP_t hr6]
      have C6 : Cf T e n0 b6 o6 I J6 p6 := Cf.cc C (hz6 rfl)
      have c6e := Cf.le C6
      obtain ⟨-, -, g6⟩ := g6
      have g6 : nx T e b4 < b6 ∧ o6.length + nx T e b4 ≤ o4.length + b6 := g6 rfl
      refine a_l0 rfl rfl rfl ?_
      refine a_l1 rfl rfl rfl ?_
      cases z5 with
      | false =>
        rw [if_neg (by decide)] at hx
        subst hx
        refine a_if_eq rfl (fun _ => ?_) (fun c => absurd rfl c)
        refine a_s rfl rfl ?_
        refine a_s rfl rfl ?_
        refine a_eV0 rfl lX12_180 mo_X12_emits (r_X12_emits (Cf.st C6) (by omega)) rfl rfl rfl ⟨12, _, rfl, rfl, rfl⟩ rfl ?_
        refine a_s rfl rfl ?_
        exact a_zret rfl rfl rfl (QF.yes (Cf.em (z := 2002) C6 (by decide) (by decide)))
      | true =>
        rw [if_pos rfl] at hx
        subst hx
        refine a_if_eq rfl (fun c => absurd c (by decide)) (fun _ => ?_)
        refine a_s rfl rfl ?_
        refine a_goto rfl ?_
        refine a_s rfl rfl ?_
        refine a_eV0 rfl lX12_180 mo_X12_emits (r_X12_emits (Cf.st C6) (by omega)) rfl rfl rfl ⟨12, _, rfl, rfl, rfl⟩ rfl ?_
        refine a_s rfl rfl ?_
        exact a_zret rfl rfl rfl (QF.yes (Cf.em (z := 2001) C6 (by decide) (by decide)))
  have eT4 := Cf.tt C4 hT
  refine a_l0 rfl rfl rfl ?_
  refine a_s rfl rfl ?_
  refine a_gV rfl lX12_187 mo_X12_sign (h_sign (b := b4) (c := 60) (by rw [eT4]; exact hbt) (by decide) (Cf.pp C4) (by rw [eT4]; exact Cf.nb C4)) rfl rfl rfl ⟨12, _, rfl, rfl, rfl⟩ rfl (fun v' h' hv => ?_)
  obtain ⟨rfl, J5, rfl, h5⟩ := hv
  rw [eT4] at h5 ⊢
  refine a_s1 rfl rfl rfl rfl rfl rfl ?_
  refine a_l1 rfl rfl rfl ?_
  cases c60 : sg T e b4 (nI 60) with
  | true =>
    have c60 : sg T e b4 60 = true := c60
    refine a_if_ne rfl (fun _ => ?_) (fun z => absurd (show (1 : Int32) = 0 from z) (by decide))
    rw [if_pos (show sg T e b4 (nI 60) = true from c60)] at h5
    rw [if_pos c60]
    exact key (z5 := true) (nx_lt (sg_lt c60)) rfl (Cf.rd C4 h5 rfl)
  | false =>
  have c60 : sg T e b4 60 = false := c60
  refine a_if_ne rfl (fun z => absurd rfl z) (fun _ => ?_)
  rw [if_neg (by rw [show sg T e b4 (nI 60) = false from c60]; decide)] at h5
  rw [if_neg (by rw [c60]; decide)]
  have C5 : Cf T e n0 b4 o4 I J5 b4 := Cf.rd C4 h5 (Cf.sk C4)
  have eT5 := Cf.tt C5 hT
  refine a_l0 rfl rfl rfl ?_
  refine a_s rfl rfl ?_
  refine a_gV rfl lX12_187 mo_X12_sign (h_sign (b := b4) (c := 62) (by rw [eT5]; exact hbt) (by decide) (Cf.pp C5) (by rw [eT5]; exact Cf.nb C5)) rfl rfl rfl ⟨12, _, rfl, rfl, rfl⟩ rfl (fun v' h' hv => ?_)
  obtain ⟨rfl, J7, rfl, h7⟩ := hv
  rw [eT5] at h7 ⊢
  cases c62 : sg T e b4 (nI 62) with
  | false =>
    have c62 : sg T e b4 62 = false := c62
    refine a_if_eq rfl (fun _ => ?_) (fun z => absurd rfl z)
    rw [if_neg (by rw [show sg T e b4 (nI 62) = false from c62]; decide)] at h7
    rw [if_neg (by rw [c62]; decide)]
    refine a_s rfl rfl ?_
    exact a_zret rfl rfl rfl (QF.no (Fm.tr C5.1 (Fm.mo (Rd.fm h7) sR_sY)) (Rd.be h7))
  | true =>
    have c62 : sg T e b4 62 = true := c62
    refine a_if_eq rfl (fun z => absurd z (by decide)) (fun _ => ?_)
    rw [if_pos (show sg T e b4 (nI 62) = true from c62)] at h7
    rw [if_pos c62]
    exact key (z5 := false) (nx_lt (sg_lt c62)) rfl (Cf.rd C5 h7 rfl)
theorem h_readAllOf_4 (hw : WdS S) (hbt : BtT T) (hT : I 426 = T) (hd : I 420 13 = nI 4) (h : Cf T e n0 b o I I p) (hB : o.length < b) : Sp S m_X12_readAllOf 27 0 0 [.ref 420] (hp I L w1 w2 t) (QF T e n0 (seqP T e (atomR T e 2) 20 2004 b o) I L w1 w2 t) nX := by
  have he4 := Cf.e4 h
  have g0 := atomR_gdo (T := T) (D := 2) (o := o) (Cf.le h)
  refine Sp_of ok_X12_readAllOf rfl rfl ?_
  show AW S m_X12_readAllOf 27 _ _ 0 0 0 [some (.ref 420)] [] (hp I L w1 w2 t)
  refine a_l0 rfl rfl rfl ?_
  refine a_gV rfl lX12_202 mo_X12_readAtom (h_readAtom_4 hw hbt hT hd h hB) rfl rfl rfl ⟨12, _, rfl, rfl, rfl⟩ rfl (fun v' h' hv => ?_)
  obtain ⟨rfl, J1, p1, rfl, hz1, hf1⟩ := hv
  rcases hr : (atomR T e 2) b o with ⟨z, b1, o1⟩
  rw [seqP_of hr]
  rw [hr] at hz1 hf1 g0
  cases z with
  | false =>
    refine a_if_ne rfl (fun z => absurd rfl z) (fun _ => ?_)
    refine a_s rfl rfl ?_
    rw [if_neg (by decide)]
    exact a_zret rfl rfl rfl (QF.no (hf1 rfl).1 (hf1 rfl).2)
  | true =>
  refine a_if_ne rfl (fun _ => ?_) (fun z => absurd (show (1 : Int32) = 0 from z) (by decide))
  rw [if_pos rfl]
  obtain ⟨-, -, g3⟩ := g0
  have g3 : b < b1 ∧ o1.length + b ≤ o.length + b1 := g3 rfl
  generalize hR : loopP T e (atomR T e 2) 20 2004 b1 o1 = R
  refine a_inv (n := e - b1) (fun m ls h => ls = [some (.ref 420)] ∧ ∃ J p' b' o', h = hp J L w1 w2 t ∧ Cf T e n0 b' o' I J p' ∧ o'.length < b' ∧ loopP T e (atomR T e 2) 20 2004 b' o' = R ∧ m = e - b') ⟨rfl, J1, p1, _, _, rfl, hz1 rfl, by show o1.length < b1; omega, hR, rfl⟩ ?_
  rintro m _ _ ⟨rfl, J, p', b', o', rfl, C, hB', es, hm⟩ ih
  have eT := Cf.tt C hT
  refine a_l0 rfl rfl rfl ?_
  refine a_ldcs (q := 130 + 20) rfl (hw.ld (i := 20) (by decide)) ?_
  refine a_gV rfl lX12_128 mo_X12_passes (h_passes (b := b') (k := 20) hw (by decide) (Cf.pp C) (by rw [eT]; exact Cf.nb C)) rfl rfl rfl ⟨12, _, rfl, rfl, rfl⟩ rfl (fun v' h' hv => ?_)
  obtain ⟨rfl, J2, rfl, h2⟩ := hv
  rw [eT] at h2 ⊢
  cases cw : isWd T e b' 20 with
  | false =>
    refine a_if_eq rfl (fun _ => ?_) (fun z => absurd rfl z)
    rw [if_neg (by rw [cw]; decide)] at h2
    refine a_s rfl rfl ?_
    rw [← es, loopP_f cw]
    exact a_zret rfl rfl rfl (QF.yes (Cf.rd C h2 (Cf.sk C)))
  | true =>
    refine a_if_eq rfl (fun z => absurd z (by decide)) (fun _ => ?_)
    rw [if_pos cw] at h2
    have n2 := nx_lt (T := T) (isWd_lt cw)
    have C2 : Cf T e n0 (nx T e b') o' I J2 (en T e b') := Cf.rd C h2 rfl
    have n2e := Cf.le C2
    have g4 := atomR_gdo (T := T) (D := 2) (o := o') n2e
    refine a_l0 rfl rfl rfl ?_
    refine a_gV rfl lX12_202 mo_X12_readAtom (h_readAtom_4 hw hbt (Cf.tt C2 hT) (Cf.d C2 hd) (Cf.rf C2) (by omega)) rfl rfl rfl ⟨12, _, rfl, rfl, rfl⟩ rfl (fun v' h' hv => ?_)
    obtain ⟨rfl, J3, p3, rfl, hz3, hf3⟩ := hv
    have el := fun g => loopP_t (op := 2004) (o := o') (item := atomR T e 2) cw g
    have en' := loopP_n (op := 2004) (o := o') (item := atomR T e 2) cw
    rcases hr2 : (atomR T e 2) (nx T e b') o' with ⟨z2, b2, o2⟩
    rw [hr2] at hz3 hf3 g4 el en'
    cases z2 with
    | false =>
      refine a_if_ne rfl (fun z => absurd rfl z) (fun _ => ?_)
      refine a_s rfl rfl ?_
      rw [← es, en' Bool.false_ne_true]
      exact a_zret rfl rfl rfl (Cf.no C2 (hf3 rfl).1 (hf3 rfl).2)
    | true =>
      refine a_if_ne rfl (fun _ => ?_) (fun z => absurd (show (1 : Int32) = 0 from z) (by decide))
      have C3 : Cf T e n0 b2 o2 I J3 p3 := Cf.cc C2 (hz3 rfl)
      have c3e := Cf.le C3
      obtain ⟨-, -, g5⟩ := g4
      have g5 : nx T e b' < b2 ∧ o2.length + nx T e b' ≤ o'.length + b2 := g5 rfl
      have es2 : loopP T e (atomR T e 2) 20 2004 b2 (2004 :: o2) = R := (el (by show b' < b2; omega) rfl).symm.trans es
      refine a_l0 rfl rfl rfl ?_
      refine a_s rfl rfl ?_
      refine a_s rfl rfl ?_
      refine a_eV0 rfl lX12_180 mo_X12_emits (r_X12_emits (Cf.st C3) (by omega)) rfl rfl rfl ⟨12, _, rfl, rfl, rfl⟩ rfl ?_
      refine a_goto rfl ?_
      exact ih (e - b2) _ _ (by omega) ⟨rfl, _, p3, b2, _, rfl, Cf.em (z := 2004) C3 (by decide) (by decide), by show o2.length + 1 < b2; omega, es2, rfl⟩
theorem h_readCond_4 (hw : WdS S) (hbt : BtT T) (hT : I 426 = T) (hd : I 420 13 = nI 4) (h : Cf T e n0 b o I I p) (hB : o.length < b) : Sp S m_X12_readCond 28 0 0 [.ref 420] (hp I L w1 w2 t) (QF T e n0 (seqP T e (seqP T e (atomR T e 2) 20 2004) 19 2005 b o) I L w1 w2 t) nX := by
  have he4 := Cf.e4 h
  have g0 := seqA_gd (T := T) (D := 2) (o := o) (Cf.le h)
  refine Sp_of ok_X12_readCond rfl rfl ?_
  show AW S m_X12_readCond 28 _ _ 0 0 0 [some (.ref 420)] [] (hp I L w1 w2 t)
  refine a_l0 rfl rfl rfl ?_
  refine a_gV rfl lX12_213 mo_X12_readAllOf (h_readAllOf_4 hw hbt hT hd h hB) rfl rfl rfl ⟨12, _, rfl, rfl, rfl⟩ rfl (fun v' h' hv => ?_)
  obtain ⟨rfl, J1, p1, rfl, hz1, hf1⟩ := hv
  rcases hr : (seqP T e (atomR T e 2) 20 2004) b o with ⟨z, b1, o1⟩
  rw [seqP_of hr]
  rw [hr] at hz1 hf1 g0
  cases z with
  | false =>
    refine a_if_ne rfl (fun z => absurd rfl z) (fun _ => ?_)
    refine a_s rfl rfl ?_
    rw [if_neg (by decide)]
    exact a_zret rfl rfl rfl (QF.no (hf1 rfl).1 (hf1 rfl).2)
  | true =>
  refine a_if_ne rfl (fun _ => ?_) (fun z => absurd (show (1 : Int32) = 0 from z) (by decide))
  rw [if_pos rfl]
  obtain ⟨-, -, g3⟩ := g0
  have g3 : b < b1 ∧ o1.length + b ≤ o.length + b1 := g3 rfl
  generalize hR : loopP T e (seqP T e (atomR T e 2) 20 2004) 19 2005 b1 o1 = R
  refine a_inv (n := e - b1) (fun m ls h => ls = [some (.ref 420)] ∧ ∃ J p' b' o', h = hp J L w1 w2 t ∧ Cf T e n0 b' o' I J p' ∧ o'.length < b' ∧ loopP T e (seqP T e (atomR T e 2) 20 2004) 19 2005 b' o' = R ∧ m = e - b') ⟨rfl, J1, p1, _, _, rfl, hz1 rfl, by show o1.length < b1; omega, hR, rfl⟩ ?_
  rintro m _ _ ⟨rfl, J, p', b', o', rfl, C, hB', es, hm⟩ ih
  have eT := Cf.tt C hT
  refine a_l0 rfl rfl rfl ?_
  refine a_ldcs (q := 130 + 19) rfl (hw.ld (i := 19) (by decide)) ?_
  refine a_gV rfl lX12_128 mo_X12_passes (h_passes (b := b') (k := 19) hw (by decide) (Cf.pp C) (by rw [eT]; exact Cf.nb C)) rfl rfl rfl ⟨12, _, rfl, rfl, rfl⟩ rfl (fun v' h' hv => ?_)
  obtain ⟨rfl, J2, rfl, h2⟩ := hv
  rw [eT] at h2 ⊢
  cases cw : isWd T e b' 19 with
  | false =>
    refine a_if_eq rfl (fun _ => ?_) (fun z => absurd rfl z)
    rw [if_neg (by rw [cw]; decide)] at h2
    refine a_s rfl rfl ?_
    rw [← es, loopP_f cw]
    exact a_zret rfl rfl rfl (QF.yes (Cf.rd C h2 (Cf.sk C)))
  | true =>
    refine a_if_eq rfl (fun z => absurd z (by decide)) (fun _ => ?_)
    rw [if_pos cw] at h2
    have n2 := nx_lt (T := T) (isWd_lt cw)
    have C2 : Cf T e n0 (nx T e b') o' I J2 (en T e b') := Cf.rd C h2 rfl
    have n2e := Cf.le C2
    have g4 := seqA_gd (T := T) (D := 2) (o := o') n2e
    refine a_l0 rfl rfl rfl ?_
    refine a_gV rfl lX12_213 mo_X12_readAllOf (h_readAllOf_4 hw hbt (Cf.tt C2 hT) (Cf.d C2 hd) (Cf.rf C2) (by omega)) rfl rfl rfl ⟨12, _, rfl, rfl, rfl⟩ rfl (fun v' h' hv => ?_)
    obtain ⟨rfl, J3, p3, rfl, hz3, hf3⟩ := hv
    have el := fun g => loopP_t (op := 2005) (o := o') (item := seqP T e (atomR T e 2) 20 2004) cw g
    have en' := loopP_n (op := 2005) (o := o') (item := seqP T e (atomR T e 2) 20 2004) cw
    rcases hr2 : (seqP T e (atomR T e 2) 20 2004) (nx T e b') o' with ⟨z2, b2, o2⟩
    rw [hr2] at hz3 hf3 g4 el en'
    cases z2 with
    | false =>
      refine a_if_ne rfl (fun z => absurd rfl z) (fun _ => ?_)
      refine a_s rfl rfl ?_
      rw [← es, en' Bool.false_ne_true]
      exact a_zret rfl rfl rfl (Cf.no C2 (hf3 rfl).1 (hf3 rfl).2)
    | true =>
      refine a_if_ne rfl (fun _ => ?_) (fun z => absurd (show (1 : Int32) = 0 from z) (by decide))
      have C3 : Cf T e n0 b2 o2 I J3 p3 := Cf.cc C2 (hz3 rfl)
      have c3e := Cf.le C3
      obtain ⟨-, -, g5⟩ := g4
      have g5 : nx T e b' < b2 ∧ o2.length + nx T e b' ≤ o'.length + b2 := g5 rfl
      have es2 : loopP T e (seqP T e (atomR T e 2) 20 2004) 19 2005 b2 (2005 :: o2) = R := (el (by show b' < b2; omega) rfl).symm.trans es
      refine a_l0 rfl rfl rfl ?_
      refine a_s rfl rfl ?_
      refine a_s rfl rfl ?_
      refine a_eV0 rfl lX12_180 mo_X12_emits (r_X12_emits (Cf.st C3) (by omega)) rfl rfl rfl ⟨12, _, rfl, rfl, rfl⟩ rfl ?_
      refine a_goto rfl ?_
      exact ih (e - b2) _ _ (by omega) ⟨rfl, _, p3, b2, _, rfl, Cf.em (z := 2005) C3 (by decide) (by decide), by show o2.length + 1 < b2; omega, es2, rfl⟩
theorem h_readAtom_3 (hw : WdS S) (hbt : BtT T) (hT : I 426 = T) (hd : I 420 13 = nI 3) (h : Cf T e n0 b o I I p) (hB : o.length < b) : Sp S m_X12_readAtom 29 0 0 [.ref 420] (hp I L w1 w2 t) (QF T e n0 (atomR T e 3 b o) I L w1 w2 t) nX := by
  have he4 := Cf.e4 h
  have hbe := Cf.le h
  refine Sp_of ok_X12_readAtom rfl rfl ?_
  show AW S m_X12_readAtom 29 _ _ 0 0 0 [some (.ref 420), none] [] (hp I L w1 w2 t)
  refine a_l0 rfl rfl rfl ?_
  refine a_s rfl rfl ?_
  refine a_gV rfl lX12_187 mo_X12_sign (h_sign (b := b) (c := 40) (by rw [hT]; exact hbt) (by decide) (Cf.pp h) (by rw [hT]; exact Cf.nb h)) rfl rfl rfl ⟨12, _, rfl, rfl, rfl⟩ rfl (fun v' h' hv => ?_)
  obtain ⟨rfl, J1, rfl, h1⟩ := hv
  rw [hT] at h1 ⊢
  cases c40 : sg T e b (nI 40) with
  | true =>
    have c40 : sg T e b 40 = true := c40
    refine a_if_eq rfl (fun z => absurd z (by decide)) (fun _ => ?_)
    rw [if_pos (show sg T e b (nI 40) = true from c40)] at h1
    have n1 := nx_lt (T := T) (sg_lt c40)
    have C1 : Cf T e n0 (nx T e b) o I J1 (en T e b) := Cf.rd h h1 rfl
    refine a_l0 rfl rfl rfl ?_
    refine a_geti rfl gfX12_194_12 rfl ?_
    refine a_top (y := nI 3) (Cf.d C1 hd) ?_
    refine a_s rfl rfl ?_
    refine a_ic_ne rfl (fun _ => ?_) (fun c => absurd c (by decide))
    refine a_l0 rfl rfl rfl ?_
    refine a_s rfl rfl ?_
    refine a_geti rfl gfX12_194_12 rfl ?_
    refine a_top (y := nI 3) (Cf.d C1 hd) ?_
    refine a_s rfl rfl ?_
    refine a_s rfl rfl ?_
    refine a_top (y := nI 4) (rfl) ?_
    refine a_puti rfl pfX12_194_12 rfl ?_
    refine a_l0 rfl rfl rfl ?_
    have g4 := cndP_gd (T := T) (fun b o h => atomR_gd (T := T) 2 b o h) (o := o) (Cf.le C1)
    refine a_gV rfl lX12_197 mo_X12_readCond (h_readCond_4 hw hbt ((up2_row (by decide)).trans (Cf.tt C1 hT)) up2_at (Cf.up13 C1) (by omega)) rfl rfl rfl ⟨12, _, rfl, rfl, rfl⟩ rfl (fun v' h' hv => ?_)
    obtain ⟨rfl, J9, p9, rfl, hz9, hf9⟩ := hv
    rw [show seqP T e (seqP T e (atomR T e 2) 20 2004) 19 2005 = cndP T e (atomR T e 2) from rfl] at hz9 hf9 ⊢
    rcases hr9 : cndP T e (atomR T e 2) (nx T e b) o with ⟨z9, b9, o9⟩
    rw [hr9] at hz9 hf9 g4
    rw [atomR_p c40 hr9]
    cases z9 with
    | false =>
      refine a_if_ne rfl (fun z => absurd rfl z) (fun _ => ?_)
      refine a_s rfl rfl ?_
      rw [if_neg (by decide)]
      exact a_zret rfl rfl rfl (QF.no (Fm.tr C1.1 (Fm.tr (Fm.up Fm.rf rfl) (hf9 rfl).1)) (hf9 rfl).2)
    | true =>
      refine a_if_ne rfl (fun _ => ?_) (fun z => absurd (show (1 : Int32) = 0 from z) (by decide))
      rw [if_pos rfl]
      have D9 : Cf T e n0 b9 o9 (up2 J1 420 13 (nI 4)) J9 p9 := hz9 rfl
      refine a_l0 rfl rfl rfl ?_
      refine a_s rfl rfl ?_
      refine a_geti rfl gfX12_194_12 rfl ?_
      refine a_top (y := nI 4) (D9.2.1.trans up2_at) ?_
      refine a_s rfl rfl ?_
      refine a_s rfl rfl ?_
      refine a_top (y := nI 3) (rfl) ?_
      refine a_puti rfl pfX12_194_12 rfl ?_
      have C9 := Cf.deep C1 hd D9
      have eT9 := Cf.tt C9 hT
      refine a_l0 rfl rfl rfl ?_
      refine a_s rfl rfl ?_
      refine a_gV rfl lX12_187 mo_X12_sign (h_sign (b := b9) (c := 41) (by rw [eT9]; exact hbt) (by decide) (Cf.pp C9) (by rw [eT9]; exact Cf.nb C9)) rfl rfl rfl ⟨12, _, rfl, rfl, rfl⟩ rfl (fun v' h' hv => ?_)
      obtain ⟨rfl, J3, rfl, h3⟩ := hv
      rw [eT9] at h3 ⊢
      cases c41 : sg T e b9 (nI 41) with
      | false =>
        have c41 : sg T e b9 41 = false := c41
        rw [if_neg (by rw [show sg T e b9 (nI 41) = false from c41]; decide)] at h3
        rw [if_neg (by rw [c41]; decide)]
        exact a_zret rfl rfl rfl (QF.no (Fm.tr C9.1 (Fm.mo (Rd.fm h3) sR_sY)) (Rd.be h3))
      | true =>
        have c41 : sg T e b9 41 = true := c41
        rw [if_pos (show sg T e b9 (nI 41) = true from c41)] at h3
        rw [if_pos c41]
        exact a_zret rfl rfl rfl (QF.yes (Cf.rd C9 h3 rfl))
  | false =>
  have c40 : sg T e b 40 = false := c40
  refine a_if_eq rfl (fun _ => ?_) (fun z => absurd rfl z)
  rw [if_neg (by rw [show sg T e b (nI 40) = false from c40]; decide)] at h1
  have C0 : Cf T e n0 b o I J1 b := Cf.rd h h1 (Cf.sk h)
  have eT0 := Cf.tt C0 hT
  refine a_l0 rfl rfl rfl ?_
  refine a_ldcs (q := 130 + 21) rfl (hw.ld (i := 21) (by decide)) ?_
  refine a_gV rfl lX12_128 mo_X12_passes (h_passes (b := b) (k := 21) hw (by decide) (Cf.pp C0) (by rw [eT0]; exact Cf.nb C0)) rfl rfl rfl ⟨12, _, rfl, rfl, rfl⟩ rfl (fun v' h' hv => ?_)
  obtain ⟨rfl, J2, rfl, h2⟩ := hv
  rw [eT0] at h2 ⊢
  cases c21 : isWd T e b 21 with
  | true =>
    refine a_if_eq rfl (fun z => absurd z (by decide)) (fun _ => ?_)
    rw [if_pos c21] at h2
    have n1 := nx_lt (T := T) (isWd_lt c21)
    have C2 : Cf T e n0 (nx T e b) o I J2 (en T e b) := Cf.rd C0 h2 rfl
    refine a_l0 rfl rfl rfl ?_
    refine a_geti rfl gfX12_194_12 rfl ?_
    refine a_top (y := nI 3) (Cf.d C2 hd) ?_
    refine a_s rfl rfl ?_
    refine a_ic_ne rfl (fun _ => ?_) (fun c => absurd c (by decide))
    refine a_l0 rfl rfl rfl ?_
    refine a_s rfl rfl ?_
    refine a_geti rfl gfX12_194_12 rfl ?_
    refine a_top (y := nI 3) (Cf.d C2 hd) ?_
    refine a_s rfl rfl ?_
    refine a_s rfl rfl ?_
    refine a_top (y := nI 4) (rfl) ?_
    refine a_puti rfl pfX12_194_12 rfl ?_
    refine a_l0 rfl rfl rfl ?_
    have g4 := atomR_gdo (T := T) (D := 2) (o := o) (Cf.le C2)
    refine a_gV rfl lX12_202 mo_X12_readAtom (h_readAtom_4 hw hbt ((up2_row (by decide)).trans (Cf.tt C2 hT)) up2_at (Cf.up13 C2) (by omega)) rfl rfl rfl ⟨12, _, rfl, rfl, rfl⟩ rfl (fun v' h' hv => ?_)
    obtain ⟨rfl, J9, p9, rfl, hz9, hf9⟩ := hv
    rcases hr9 : atomR T e 2 (nx T e b) o with ⟨z9, b9, o9⟩
    rw [hr9] at hz9 hf9 g4
    rw [atomR_n c40 c21 hr9]
    cases z9 with
    | false =>
      refine a_if_ne rfl (fun z => absurd rfl z) (fun _ => ?_)
      refine a_s rfl rfl ?_
      rw [if_neg (by decide)]
      exact a_zret rfl rfl rfl (QF.no (Fm.tr C2.1 (Fm.tr (Fm.up Fm.rf rfl) (hf9 rfl).1)) (hf9 rfl).2)
    | true =>
      refine a_if_ne rfl (fun _ => ?_) (fun z => absurd (show (1 : Int32) = 0 from z) (by decide))
      rw [if_pos rfl]
      have D9 : Cf T e n0 b9 o9 (up2 J2 420 13 (nI 4)) J9 p9 := hz9 rfl
      obtain ⟨-, -, g5⟩ := g4
      have g5 : nx T e b < b9 ∧ o9.length + nx T e b ≤ o.length + b9 := g5 rfl
      have c9e := Cf.le D9
      refine a_l0 rfl rfl rfl ?_
      refine a_s rfl rfl ?_
      refine a_geti rfl gfX12_194_12 rfl ?_
      refine a_top (y := nI 4) (D9.2.1.trans up2_at) ?_
      refine a_s rfl rfl ?_
      refine a_s rfl rfl ?_
      refine a_top (y := nI 3) (rfl) ?_
      refine a_puti rfl pfX12_194_12 rfl ?_
      have C9 := Cf.deep C2 hd D9
      refine a_l0 rfl rfl rfl ?_
      refine a_s rfl rfl ?_
      refine a_s rfl rfl ?_
      refine a_eV0 rfl lX12_180 mo_X12_emits (r_X12_emits (Cf.st C9) (by omega)) rfl rfl rfl ⟨12, _, rfl, rfl, rfl⟩ rfl ?_
      refine a_s rfl rfl ?_
      exact a_zret rfl rfl rfl (QF.yes (Cf.em (z := 2003) C9 (by decide) (by decide)))
  | false =>
  refine a_if_eq rfl (fun _ => ?_) (fun z => absurd rfl z)
  rw [if_neg (by rw [c21]; decide)] at h2
  have C2 : Cf T e n0 b o I J2 b := Cf.rd C0 h2 (Cf.sk C0)
  rw [atomR_b c40 c21]
  refine a_l0 rfl rfl rfl ?_
  refine a_gV rfl lX12_205 mo_X12_readTag (h_readTag hw (Cf.tt C2 hT) (Cf.rf C2) hB) rfl rfl rfl ⟨12, _, rfl, rfl, rfl⟩ rfl (fun v' h' hv => ?_)
  obtain ⟨z3, x3, J3, p3, rfl, rfl, ht3, hf3⟩ := hv
  cases z3 with
  | true =>
    refine a_if_eq rfl (fun z => absurd z (by decide)) (fun _ => ?_)
    refine a_s rfl rfl ?_
    obtain ⟨hx, D3⟩ := ht3 rfl
    rcases hx with ⟨c22, rfl⟩ | ⟨c22, c23, rfl⟩
    · rw [show baseP T e b o = (true, nx T e b, 1007 :: o) from if_pos c22]
      exact a_zret rfl rfl rfl (QF.yes (Cf.cc C2 D3))
    · rw [show baseP T e b o = (true, nx T e b, 1008 :: o) from (if_neg (by rw [c22]; decide)).trans (if_pos c23)]
      exact a_zret rfl rfl rfl (QF.yes (Cf.cc C2 D3))
  | false =>
  refine a_if_eq rfl (fun _ => ?_) (fun z => absurd rfl z)
  obtain ⟨⟨c22, c23⟩, D3⟩ := hf3 rfl
  have C3 := Cf.cc C2 D3
  have g4 := sumP_gd (T := T) (o := o) hbe
  refine a_l0 rfl rfl rfl ?_
  refine a_gV rfl lX12_208 mo_X12_readSum (h_readSum hw hbt (Cf.tt C3 hT) (Cf.rf C3) hB) rfl rfl rfl ⟨12, _, rfl, rfl, rfl⟩ rfl (fun v' h' hv => ?_)
  obtain ⟨rfl, J4, p4, rfl, hz4, hf4⟩ := hv
  rcases hr4 : sumP T e b o with ⟨z4, b4, o4⟩
  rw [baseP_s c22 c23 hr4]
  rw [hr4] at hz4 hf4 g4
  cases z4 with
  | false =>
    refine a_if_ne rfl (fun z => absurd rfl z) (fun _ => ?_)
    refine a_s rfl rfl ?_
    rw [if_neg (by decide)]
    exact a_zret rfl rfl rfl (Cf.no C3 (hf4 rfl).1 (hf4 rfl).2)
  | true =>
  refine a_if_ne rfl (fun _ => ?_) (fun z => absurd (show (1 : Int32) = 0 from z) (by decide))
  rw [if_pos rfl]
  have C4 : Cf T e n0 b4 o4 I J4 p4 := Cf.cc C3 (hz4 rfl)
  obtain ⟨-, -, g4⟩ := g4
  have g4 : b < b4 ∧ o4.length + b ≤ o.length + b4 := g4 rfl
  have key : ∀ {z5 : Bool} {x : Int32} {p' : Nat} {J : Nat → Nat → Int32}, b4 < nx T e b4 → x = (if z5 = true then 2001 else 2002) → Cf T e n0 (nx T e b4) o4 I J p' → AW S m_X12_readAtom 29 (QF T e n0 (cmpP T e x (nx T e b4) o4) I L w1 w2 t) nX 0 0 152 [some (.ref 420), some (.int (bI z5))] [] (hp J L w1 w2 t) := by
    intro z5 x p' J n4 hx C
    have g6 := sumP_gd (T := T) (o := o4) (Cf.le C)
    refine a_l0 rfl rfl rfl ?_
    refine a_gV rfl lX12_208 mo_X12_readSum (h_readSum hw hbt (Cf.tt C hT) (Cf.rf C) (by omega)) rfl rfl rfl ⟨12, _, rfl, rfl, rfl⟩ rfl (fun v' h' hv => ?_)
    obtain ⟨rfl, J6, p6, rfl, hz6, hf6⟩ := hv
    rcases hr6 : sumP T e (nx T e b4) o4 with ⟨z6, b6, o6⟩
    rw [hr6] at hz6 hf6 g6
    cases z6 with
    | false =>
      refine a_if_ne rfl (fun z => absurd rfl z) (fun _ => ?_)
      refine a_s rfl rfl ?_
      rw [cmpP_f hr6]
      exact a_zret rfl rfl rfl (Cf.no C (hf6 rfl).1 (hf6 rfl).2)
    | true =>
      refine a_if_ne rfl (fun _ => ?_) (fun z => absurd (show (1 : Int32) = 0 from z) (by decide))
      rw [cmpP_t hr6]
      have C6 : Cf T e n0 b6 o6 I J6 p6 := Cf.cc C (hz6 rfl)
      have c6e := Cf.le C6
      obtain ⟨-, -, g6⟩ := g6
      have g6 : nx T e b4 < b6 ∧ o6.length + nx T e b4 ≤ o4.length + b6 := g6 rfl
      refine a_l0 rfl rfl rfl ?_
      refine a_l1 rfl rfl rfl ?_
      cases z5 with
      | false =>
        rw [if_neg (by decide)] at hx
        subst hx
        refine a_if_eq rfl (fun _ => ?_) (fun c => absurd rfl c)
        refine a_s rfl rfl ?_
        refine a_s rfl rfl ?_
        refine a_eV0 rfl lX12_180 mo_X12_emits (r_X12_emits (Cf.st C6) (by omega)) rfl rfl rfl ⟨12, _, rfl, rfl, rfl⟩ rfl ?_
        refine a_s rfl rfl ?_
        exact a_zret rfl rfl rfl (QF.yes (Cf.em (z := 2002) C6 (by decide) (by decide)))
      | true =>
        rw [if_pos rfl] at hx
        subst hx
        refine a_if_eq rfl (fun c => absurd c (by decide)) (fun _ => ?_)
        refine a_s rfl rfl ?_
        refine a_goto rfl ?_
        refine a_s rfl rfl ?_
        refine a_eV0 rfl lX12_180 mo_X12_emits (r_X12_emits (Cf.st C6) (by omega)) rfl rfl rfl ⟨12, _, rfl, rfl, rfl⟩ rfl ?_
        refine a_s rfl rfl ?_
        exact a_zret rfl rfl rfl (QF.yes (Cf.em (z := 2001) C6 (by decide) (by decide)))
  have eT4 := Cf.tt C4 hT
  refine a_l0 rfl rfl rfl ?_
  refine a_s rfl rfl ?_
  refine a_gV rfl lX12_187 mo_X12_sign (h_sign (b := b4) (c := 60) (by rw [eT4]; exact hbt) (by decide) (Cf.pp C4) (by rw [eT4]; exact Cf.nb C4)) rfl rfl rfl ⟨12, _, rfl, rfl, rfl⟩ rfl (fun v' h' hv => ?_)
  obtain ⟨rfl, J5, rfl, h5⟩ := hv
  rw [eT4] at h5 ⊢
  refine a_s1 rfl rfl rfl rfl rfl rfl ?_
  refine a_l1 rfl rfl rfl ?_
  cases c60 : sg T e b4 (nI 60) with
  | true =>
    have c60 : sg T e b4 60 = true := c60
    refine a_if_ne rfl (fun _ => ?_) (fun z => absurd (show (1 : Int32) = 0 from z) (by decide))
    rw [if_pos (show sg T e b4 (nI 60) = true from c60)] at h5
    rw [if_pos c60]
    exact key (z5 := true) (nx_lt (sg_lt c60)) rfl (Cf.rd C4 h5 rfl)
  | false =>
  have c60 : sg T e b4 60 = false := c60
  refine a_if_ne rfl (fun z => absurd rfl z) (fun _ => ?_)
  rw [if_neg (by rw [show sg T e b4 (nI 60) = false from c60]; decide)] at h5
  rw [if_neg (by rw [c60]; decide)]
  have C5 : Cf T e n0 b4 o4 I J5 b4 := Cf.rd C4 h5 (Cf.sk C4)
  have eT5 := Cf.tt C5 hT
  refine a_l0 rfl rfl rfl ?_
  refine a_s rfl rfl ?_
  refine a_gV rfl lX12_187 mo_X12_sign (h_sign (b := b4) (c := 62) (by rw [eT5]; exact hbt) (by decide) (Cf.pp C5) (by rw [eT5]; exact Cf.nb C5)) rfl rfl rfl ⟨12, _, rfl, rfl, rfl⟩ rfl (fun v' h' hv => ?_)
  obtain ⟨rfl, J7, rfl, h7⟩ := hv
  rw [eT5] at h7 ⊢
  cases c62 : sg T e b4 (nI 62) with
  | false =>
    have c62 : sg T e b4 62 = false := c62
    refine a_if_eq rfl (fun _ => ?_) (fun z => absurd rfl z)
    rw [if_neg (by rw [show sg T e b4 (nI 62) = false from c62]; decide)] at h7
    rw [if_neg (by rw [c62]; decide)]
    refine a_s rfl rfl ?_
    exact a_zret rfl rfl rfl (QF.no (Fm.tr C5.1 (Fm.mo (Rd.fm h7) sR_sY)) (Rd.be h7))
  | true =>
    have c62 : sg T e b4 62 = true := c62
    refine a_if_eq rfl (fun z => absurd z (by decide)) (fun _ => ?_)
    rw [if_pos (show sg T e b4 (nI 62) = true from c62)] at h7
    rw [if_pos c62]
    exact key (z5 := false) (nx_lt (sg_lt c62)) rfl (Cf.rd C5 h7 rfl)
theorem h_readAllOf_3 (hw : WdS S) (hbt : BtT T) (hT : I 426 = T) (hd : I 420 13 = nI 3) (h : Cf T e n0 b o I I p) (hB : o.length < b) : Sp S m_X12_readAllOf 30 0 0 [.ref 420] (hp I L w1 w2 t) (QF T e n0 (seqP T e (atomR T e 3) 20 2004 b o) I L w1 w2 t) nX := by
  have he4 := Cf.e4 h
  have g0 := atomR_gdo (T := T) (D := 3) (o := o) (Cf.le h)
  refine Sp_of ok_X12_readAllOf rfl rfl ?_
  show AW S m_X12_readAllOf 30 _ _ 0 0 0 [some (.ref 420)] [] (hp I L w1 w2 t)
  refine a_l0 rfl rfl rfl ?_
  refine a_gV rfl lX12_202 mo_X12_readAtom (h_readAtom_3 hw hbt hT hd h hB) rfl rfl rfl ⟨12, _, rfl, rfl, rfl⟩ rfl (fun v' h' hv => ?_)
  obtain ⟨rfl, J1, p1, rfl, hz1, hf1⟩ := hv
  rcases hr : (atomR T e 3) b o with ⟨z, b1, o1⟩
  rw [seqP_of hr]
  rw [hr] at hz1 hf1 g0
  cases z with
  | false =>
    refine a_if_ne rfl (fun z => absurd rfl z) (fun _ => ?_)
    refine a_s rfl rfl ?_
    rw [if_neg (by decide)]
    exact a_zret rfl rfl rfl (QF.no (hf1 rfl).1 (hf1 rfl).2)
  | true =>
  refine a_if_ne rfl (fun _ => ?_) (fun z => absurd (show (1 : Int32) = 0 from z) (by decide))
  rw [if_pos rfl]
  obtain ⟨-, -, g3⟩ := g0
  have g3 : b < b1 ∧ o1.length + b ≤ o.length + b1 := g3 rfl
  generalize hR : loopP T e (atomR T e 3) 20 2004 b1 o1 = R
  refine a_inv (n := e - b1) (fun m ls h => ls = [some (.ref 420)] ∧ ∃ J p' b' o', h = hp J L w1 w2 t ∧ Cf T e n0 b' o' I J p' ∧ o'.length < b' ∧ loopP T e (atomR T e 3) 20 2004 b' o' = R ∧ m = e - b') ⟨rfl, J1, p1, _, _, rfl, hz1 rfl, by show o1.length < b1; omega, hR, rfl⟩ ?_
  rintro m _ _ ⟨rfl, J, p', b', o', rfl, C, hB', es, hm⟩ ih
  have eT := Cf.tt C hT
  refine a_l0 rfl rfl rfl ?_
  refine a_ldcs (q := 130 + 20) rfl (hw.ld (i := 20) (by decide)) ?_
  refine a_gV rfl lX12_128 mo_X12_passes (h_passes (b := b') (k := 20) hw (by decide) (Cf.pp C) (by rw [eT]; exact Cf.nb C)) rfl rfl rfl ⟨12, _, rfl, rfl, rfl⟩ rfl (fun v' h' hv => ?_)
  obtain ⟨rfl, J2, rfl, h2⟩ := hv
  rw [eT] at h2 ⊢
  cases cw : isWd T e b' 20 with
  | false =>
    refine a_if_eq rfl (fun _ => ?_) (fun z => absurd rfl z)
    rw [if_neg (by rw [cw]; decide)] at h2
    refine a_s rfl rfl ?_
    rw [← es, loopP_f cw]
    exact a_zret rfl rfl rfl (QF.yes (Cf.rd C h2 (Cf.sk C)))
  | true =>
    refine a_if_eq rfl (fun z => absurd z (by decide)) (fun _ => ?_)
    rw [if_pos cw] at h2
    have n2 := nx_lt (T := T) (isWd_lt cw)
    have C2 : Cf T e n0 (nx T e b') o' I J2 (en T e b') := Cf.rd C h2 rfl
    have n2e := Cf.le C2
    have g4 := atomR_gdo (T := T) (D := 3) (o := o') n2e
    refine a_l0 rfl rfl rfl ?_
    refine a_gV rfl lX12_202 mo_X12_readAtom (h_readAtom_3 hw hbt (Cf.tt C2 hT) (Cf.d C2 hd) (Cf.rf C2) (by omega)) rfl rfl rfl ⟨12, _, rfl, rfl, rfl⟩ rfl (fun v' h' hv => ?_)
    obtain ⟨rfl, J3, p3, rfl, hz3, hf3⟩ := hv
    have el := fun g => loopP_t (op := 2004) (o := o') (item := atomR T e 3) cw g
    have en' := loopP_n (op := 2004) (o := o') (item := atomR T e 3) cw
    rcases hr2 : (atomR T e 3) (nx T e b') o' with ⟨z2, b2, o2⟩
    rw [hr2] at hz3 hf3 g4 el en'
    cases z2 with
    | false =>
      refine a_if_ne rfl (fun z => absurd rfl z) (fun _ => ?_)
      refine a_s rfl rfl ?_
      rw [← es, en' Bool.false_ne_true]
      exact a_zret rfl rfl rfl (Cf.no C2 (hf3 rfl).1 (hf3 rfl).2)
    | true =>
      refine a_if_ne rfl (fun _ => ?_) (fun z => absurd (show (1 : Int32) = 0 from z) (by decide))
      have C3 : Cf T e n0 b2 o2 I J3 p3 := Cf.cc C2 (hz3 rfl)
      have c3e := Cf.le C3
      obtain ⟨-, -, g5⟩ := g4
      have g5 : nx T e b' < b2 ∧ o2.length + nx T e b' ≤ o'.length + b2 := g5 rfl
      have es2 : loopP T e (atomR T e 3) 20 2004 b2 (2004 :: o2) = R := (el (by show b' < b2; omega) rfl).symm.trans es
      refine a_l0 rfl rfl rfl ?_
      refine a_s rfl rfl ?_
      refine a_s rfl rfl ?_
      refine a_eV0 rfl lX12_180 mo_X12_emits (r_X12_emits (Cf.st C3) (by omega)) rfl rfl rfl ⟨12, _, rfl, rfl, rfl⟩ rfl ?_
      refine a_goto rfl ?_
      exact ih (e - b2) _ _ (by omega) ⟨rfl, _, p3, b2, _, rfl, Cf.em (z := 2004) C3 (by decide) (by decide), by show o2.length + 1 < b2; omega, es2, rfl⟩
theorem h_readCond_3 (hw : WdS S) (hbt : BtT T) (hT : I 426 = T) (hd : I 420 13 = nI 3) (h : Cf T e n0 b o I I p) (hB : o.length < b) : Sp S m_X12_readCond 31 0 0 [.ref 420] (hp I L w1 w2 t) (QF T e n0 (seqP T e (seqP T e (atomR T e 3) 20 2004) 19 2005 b o) I L w1 w2 t) nX := by
  have he4 := Cf.e4 h
  have g0 := seqA_gd (T := T) (D := 3) (o := o) (Cf.le h)
  refine Sp_of ok_X12_readCond rfl rfl ?_
  show AW S m_X12_readCond 31 _ _ 0 0 0 [some (.ref 420)] [] (hp I L w1 w2 t)
  refine a_l0 rfl rfl rfl ?_
  refine a_gV rfl lX12_213 mo_X12_readAllOf (h_readAllOf_3 hw hbt hT hd h hB) rfl rfl rfl ⟨12, _, rfl, rfl, rfl⟩ rfl (fun v' h' hv => ?_)
  obtain ⟨rfl, J1, p1, rfl, hz1, hf1⟩ := hv
  rcases hr : (seqP T e (atomR T e 3) 20 2004) b o with ⟨z, b1, o1⟩
  rw [seqP_of hr]
  rw [hr] at hz1 hf1 g0
  cases z with
  | false =>
    refine a_if_ne rfl (fun z => absurd rfl z) (fun _ => ?_)
    refine a_s rfl rfl ?_
    rw [if_neg (by decide)]
    exact a_zret rfl rfl rfl (QF.no (hf1 rfl).1 (hf1 rfl).2)
  | true =>
  refine a_if_ne rfl (fun _ => ?_) (fun z => absurd (show (1 : Int32) = 0 from z) (by decide))
  rw [if_pos rfl]
  obtain ⟨-, -, g3⟩ := g0
  have g3 : b < b1 ∧ o1.length + b ≤ o.length + b1 := g3 rfl
  generalize hR : loopP T e (seqP T e (atomR T e 3) 20 2004) 19 2005 b1 o1 = R
  refine a_inv (n := e - b1) (fun m ls h => ls = [some (.ref 420)] ∧ ∃ J p' b' o', h = hp J L w1 w2 t ∧ Cf T e n0 b' o' I J p' ∧ o'.length < b' ∧ loopP T e (seqP T e (atomR T e 3) 20 2004) 19 2005 b' o' = R ∧ m = e - b') ⟨rfl, J1, p1, _, _, rfl, hz1 rfl, by show o1.length < b1; omega, hR, rfl⟩ ?_
  rintro m _ _ ⟨rfl, J, p', b', o', rfl, C, hB', es, hm⟩ ih
  have eT := Cf.tt C hT
  refine a_l0 rfl rfl rfl ?_
  refine a_ldcs (q := 130 + 19) rfl (hw.ld (i := 19) (by decide)) ?_
  refine a_gV rfl lX12_128 mo_X12_passes (h_passes (b := b') (k := 19) hw (by decide) (Cf.pp C) (by rw [eT]; exact Cf.nb C)) rfl rfl rfl ⟨12, _, rfl, rfl, rfl⟩ rfl (fun v' h' hv => ?_)
  obtain ⟨rfl, J2, rfl, h2⟩ := hv
  rw [eT] at h2 ⊢
  cases cw : isWd T e b' 19 with
  | false =>
    refine a_if_eq rfl (fun _ => ?_) (fun z => absurd rfl z)
    rw [if_neg (by rw [cw]; decide)] at h2
    refine a_s rfl rfl ?_
    rw [← es, loopP_f cw]
    exact a_zret rfl rfl rfl (QF.yes (Cf.rd C h2 (Cf.sk C)))
  | true =>
    refine a_if_eq rfl (fun z => absurd z (by decide)) (fun _ => ?_)
    rw [if_pos cw] at h2
    have n2 := nx_lt (T := T) (isWd_lt cw)
    have C2 : Cf T e n0 (nx T e b') o' I J2 (en T e b') := Cf.rd C h2 rfl
    have n2e := Cf.le C2
    have g4 := seqA_gd (T := T) (D := 3) (o := o') n2e
    refine a_l0 rfl rfl rfl ?_
    refine a_gV rfl lX12_213 mo_X12_readAllOf (h_readAllOf_3 hw hbt (Cf.tt C2 hT) (Cf.d C2 hd) (Cf.rf C2) (by omega)) rfl rfl rfl ⟨12, _, rfl, rfl, rfl⟩ rfl (fun v' h' hv => ?_)
    obtain ⟨rfl, J3, p3, rfl, hz3, hf3⟩ := hv
    have el := fun g => loopP_t (op := 2005) (o := o') (item := seqP T e (atomR T e 3) 20 2004) cw g
    have en' := loopP_n (op := 2005) (o := o') (item := seqP T e (atomR T e 3) 20 2004) cw
    rcases hr2 : (seqP T e (atomR T e 3) 20 2004) (nx T e b') o' with ⟨z2, b2, o2⟩
    rw [hr2] at hz3 hf3 g4 el en'
    cases z2 with
    | false =>
      refine a_if_ne rfl (fun z => absurd rfl z) (fun _ => ?_)
      refine a_s rfl rfl ?_
      rw [← es, en' Bool.false_ne_true]
      exact a_zret rfl rfl rfl (Cf.no C2 (hf3 rfl).1 (hf3 rfl).2)
    | true =>
      refine a_if_ne rfl (fun _ => ?_) (fun z => absurd (show (1 : Int32) = 0 from z) (by decide))
      have C3 : Cf T e n0 b2 o2 I J3 p3 := Cf.cc C2 (hz3 rfl)
      have c3e := Cf.le C3
      obtain ⟨-, -, g5⟩ := g4
      have g5 : nx T e b' < b2 ∧ o2.length + nx T e b' ≤ o'.length + b2 := g5 rfl
      have es2 : loopP T e (seqP T e (atomR T e 3) 20 2004) 19 2005 b2 (2005 :: o2) = R := (el (by show b' < b2; omega) rfl).symm.trans es
      refine a_l0 rfl rfl rfl ?_
      refine a_s rfl rfl ?_
      refine a_s rfl rfl ?_
      refine a_eV0 rfl lX12_180 mo_X12_emits (r_X12_emits (Cf.st C3) (by omega)) rfl rfl rfl ⟨12, _, rfl, rfl, rfl⟩ rfl ?_
      refine a_goto rfl ?_
      exact ih (e - b2) _ _ (by omega) ⟨rfl, _, p3, b2, _, rfl, Cf.em (z := 2005) C3 (by decide) (by decide), by show o2.length + 1 < b2; omega, es2, rfl⟩
theorem h_readAtom_2 (hw : WdS S) (hbt : BtT T) (hT : I 426 = T) (hd : I 420 13 = nI 2) (h : Cf T e n0 b o I I p) (hB : o.length < b) : Sp S m_X12_readAtom 32 0 0 [.ref 420] (hp I L w1 w2 t) (QF T e n0 (atomR T e 4 b o) I L w1 w2 t) nX := by
  have he4 := Cf.e4 h
  have hbe := Cf.le h
  refine Sp_of ok_X12_readAtom rfl rfl ?_
  show AW S m_X12_readAtom 32 _ _ 0 0 0 [some (.ref 420), none] [] (hp I L w1 w2 t)
  refine a_l0 rfl rfl rfl ?_
  refine a_s rfl rfl ?_
  refine a_gV rfl lX12_187 mo_X12_sign (h_sign (b := b) (c := 40) (by rw [hT]; exact hbt) (by decide) (Cf.pp h) (by rw [hT]; exact Cf.nb h)) rfl rfl rfl ⟨12, _, rfl, rfl, rfl⟩ rfl (fun v' h' hv => ?_)
  obtain ⟨rfl, J1, rfl, h1⟩ := hv
  rw [hT] at h1 ⊢
  cases c40 : sg T e b (nI 40) with
  | true =>
    have c40 : sg T e b 40 = true := c40
    refine a_if_eq rfl (fun z => absurd z (by decide)) (fun _ => ?_)
    rw [if_pos (show sg T e b (nI 40) = true from c40)] at h1
    have n1 := nx_lt (T := T) (sg_lt c40)
    have C1 : Cf T e n0 (nx T e b) o I J1 (en T e b) := Cf.rd h h1 rfl
    refine a_l0 rfl rfl rfl ?_
    refine a_geti rfl gfX12_194_12 rfl ?_
    refine a_top (y := nI 2) (Cf.d C1 hd) ?_
    refine a_s rfl rfl ?_
    refine a_ic_ne rfl (fun _ => ?_) (fun c => absurd c (by decide))
    refine a_l0 rfl rfl rfl ?_
    refine a_s rfl rfl ?_
    refine a_geti rfl gfX12_194_12 rfl ?_
    refine a_top (y := nI 2) (Cf.d C1 hd) ?_
    refine a_s rfl rfl ?_
    refine a_s rfl rfl ?_
    refine a_top (y := nI 3) (rfl) ?_
    refine a_puti rfl pfX12_194_12 rfl ?_
    refine a_l0 rfl rfl rfl ?_
    have g4 := cndP_gd (T := T) (fun b o h => atomR_gd (T := T) 3 b o h) (o := o) (Cf.le C1)
    refine a_gV rfl lX12_197 mo_X12_readCond (h_readCond_3 hw hbt ((up2_row (by decide)).trans (Cf.tt C1 hT)) up2_at (Cf.up13 C1) (by omega)) rfl rfl rfl ⟨12, _, rfl, rfl, rfl⟩ rfl (fun v' h' hv => ?_)
    obtain ⟨rfl, J9, p9, rfl, hz9, hf9⟩ := hv
    rw [show seqP T e (seqP T e (atomR T e 3) 20 2004) 19 2005 = cndP T e (atomR T e 3) from rfl] at hz9 hf9 ⊢
    rcases hr9 : cndP T e (atomR T e 3) (nx T e b) o with ⟨z9, b9, o9⟩
    rw [hr9] at hz9 hf9 g4
    rw [atomR_p c40 hr9]
    cases z9 with
    | false =>
      refine a_if_ne rfl (fun z => absurd rfl z) (fun _ => ?_)
      refine a_s rfl rfl ?_
      rw [if_neg (by decide)]
      exact a_zret rfl rfl rfl (QF.no (Fm.tr C1.1 (Fm.tr (Fm.up Fm.rf rfl) (hf9 rfl).1)) (hf9 rfl).2)
    | true =>
      refine a_if_ne rfl (fun _ => ?_) (fun z => absurd (show (1 : Int32) = 0 from z) (by decide))
      rw [if_pos rfl]
      have D9 : Cf T e n0 b9 o9 (up2 J1 420 13 (nI 3)) J9 p9 := hz9 rfl
      refine a_l0 rfl rfl rfl ?_
      refine a_s rfl rfl ?_
      refine a_geti rfl gfX12_194_12 rfl ?_
      refine a_top (y := nI 3) (D9.2.1.trans up2_at) ?_
      refine a_s rfl rfl ?_
      refine a_s rfl rfl ?_
      refine a_top (y := nI 2) (rfl) ?_
      refine a_puti rfl pfX12_194_12 rfl ?_
      have C9 := Cf.deep C1 hd D9
      have eT9 := Cf.tt C9 hT
      refine a_l0 rfl rfl rfl ?_
      refine a_s rfl rfl ?_
      refine a_gV rfl lX12_187 mo_X12_sign (h_sign (b := b9) (c := 41) (by rw [eT9]; exact hbt) (by decide) (Cf.pp C9) (by rw [eT9]; exact Cf.nb C9)) rfl rfl rfl ⟨12, _, rfl, rfl, rfl⟩ rfl (fun v' h' hv => ?_)
      obtain ⟨rfl, J3, rfl, h3⟩ := hv
      rw [eT9] at h3 ⊢
      cases c41 : sg T e b9 (nI 41) with
      | false =>
        have c41 : sg T e b9 41 = false := c41
        rw [if_neg (by rw [show sg T e b9 (nI 41) = false from c41]; decide)] at h3
        rw [if_neg (by rw [c41]; decide)]
        exact a_zret rfl rfl rfl (QF.no (Fm.tr C9.1 (Fm.mo (Rd.fm h3) sR_sY)) (Rd.be h3))
      | true =>
        have c41 : sg T e b9 41 = true := c41
        rw [if_pos (show sg T e b9 (nI 41) = true from c41)] at h3
        rw [if_pos c41]
        exact a_zret rfl rfl rfl (QF.yes (Cf.rd C9 h3 rfl))
  | false =>
  have c40 : sg T e b 40 = false := c40
  refine a_if_eq rfl (fun _ => ?_) (fun z => absurd rfl z)
  rw [if_neg (by rw [show sg T e b (nI 40) = false from c40]; decide)] at h1
  have C0 : Cf T e n0 b o I J1 b := Cf.rd h h1 (Cf.sk h)
  have eT0 := Cf.tt C0 hT
  refine a_l0 rfl rfl rfl ?_
  refine a_ldcs (q := 130 + 21) rfl (hw.ld (i := 21) (by decide)) ?_
  refine a_gV rfl lX12_128 mo_X12_passes (h_passes (b := b) (k := 21) hw (by decide) (Cf.pp C0) (by rw [eT0]; exact Cf.nb C0)) rfl rfl rfl ⟨12, _, rfl, rfl, rfl⟩ rfl (fun v' h' hv => ?_)
  obtain ⟨rfl, J2, rfl, h2⟩ := hv
  rw [eT0] at h2 ⊢
  cases c21 : isWd T e b 21 with
  | true =>
    refine a_if_eq rfl (fun z => absurd z (by decide)) (fun _ => ?_)
    rw [if_pos c21] at h2
    have n1 := nx_lt (T := T) (isWd_lt c21)
    have C2 : Cf T e n0 (nx T e b) o I J2 (en T e b) := Cf.rd C0 h2 rfl
    refine a_l0 rfl rfl rfl ?_
    refine a_geti rfl gfX12_194_12 rfl ?_
    refine a_top (y := nI 2) (Cf.d C2 hd) ?_
    refine a_s rfl rfl ?_
    refine a_ic_ne rfl (fun _ => ?_) (fun c => absurd c (by decide))
    refine a_l0 rfl rfl rfl ?_
    refine a_s rfl rfl ?_
    refine a_geti rfl gfX12_194_12 rfl ?_
    refine a_top (y := nI 2) (Cf.d C2 hd) ?_
    refine a_s rfl rfl ?_
    refine a_s rfl rfl ?_
    refine a_top (y := nI 3) (rfl) ?_
    refine a_puti rfl pfX12_194_12 rfl ?_
    refine a_l0 rfl rfl rfl ?_
    have g4 := atomR_gdo (T := T) (D := 3) (o := o) (Cf.le C2)
    refine a_gV rfl lX12_202 mo_X12_readAtom (h_readAtom_3 hw hbt ((up2_row (by decide)).trans (Cf.tt C2 hT)) up2_at (Cf.up13 C2) (by omega)) rfl rfl rfl ⟨12, _, rfl, rfl, rfl⟩ rfl (fun v' h' hv => ?_)
    obtain ⟨rfl, J9, p9, rfl, hz9, hf9⟩ := hv
    rcases hr9 : atomR T e 3 (nx T e b) o with ⟨z9, b9, o9⟩
    rw [hr9] at hz9 hf9 g4
    rw [atomR_n c40 c21 hr9]
    cases z9 with
    | false =>
      refine a_if_ne rfl (fun z => absurd rfl z) (fun _ => ?_)
      refine a_s rfl rfl ?_
      rw [if_neg (by decide)]
      exact a_zret rfl rfl rfl (QF.no (Fm.tr C2.1 (Fm.tr (Fm.up Fm.rf rfl) (hf9 rfl).1)) (hf9 rfl).2)
    | true =>
      refine a_if_ne rfl (fun _ => ?_) (fun z => absurd (show (1 : Int32) = 0 from z) (by decide))
      rw [if_pos rfl]
      have D9 : Cf T e n0 b9 o9 (up2 J2 420 13 (nI 3)) J9 p9 := hz9 rfl
      obtain ⟨-, -, g5⟩ := g4
      have g5 : nx T e b < b9 ∧ o9.length + nx T e b ≤ o.length + b9 := g5 rfl
      have c9e := Cf.le D9
      refine a_l0 rfl rfl rfl ?_
      refine a_s rfl rfl ?_
      refine a_geti rfl gfX12_194_12 rfl ?_
      refine a_top (y := nI 3) (D9.2.1.trans up2_at) ?_
      refine a_s rfl rfl ?_
      refine a_s rfl rfl ?_
      refine a_top (y := nI 2) (rfl) ?_
      refine a_puti rfl pfX12_194_12 rfl ?_
      have C9 := Cf.deep C2 hd D9
      refine a_l0 rfl rfl rfl ?_
      refine a_s rfl rfl ?_
      refine a_s rfl rfl ?_
      refine a_eV0 rfl lX12_180 mo_X12_emits (r_X12_emits (Cf.st C9) (by omega)) rfl rfl rfl ⟨12, _, rfl, rfl, rfl⟩ rfl ?_
      refine a_s rfl rfl ?_
      exact a_zret rfl rfl rfl (QF.yes (Cf.em (z := 2003) C9 (by decide) (by decide)))
  | false =>
  refine a_if_eq rfl (fun _ => ?_) (fun z => absurd rfl z)
  rw [if_neg (by rw [c21]; decide)] at h2
  have C2 : Cf T e n0 b o I J2 b := Cf.rd C0 h2 (Cf.sk C0)
  rw [atomR_b c40 c21]
  refine a_l0 rfl rfl rfl ?_
  refine a_gV rfl lX12_205 mo_X12_readTag (h_readTag hw (Cf.tt C2 hT) (Cf.rf C2) hB) rfl rfl rfl ⟨12, _, rfl, rfl, rfl⟩ rfl (fun v' h' hv => ?_)
  obtain ⟨z3, x3, J3, p3, rfl, rfl, ht3, hf3⟩ := hv
  cases z3 with
  | true =>
    refine a_if_eq rfl (fun z => absurd z (by decide)) (fun _ => ?_)
    refine a_s rfl rfl ?_
    obtain ⟨hx, D3⟩ := ht3 rfl
    rcases hx with ⟨c22, rfl⟩ | ⟨c22, c23, rfl⟩
    · rw [show baseP T e b o = (true, nx T e b, 1007 :: o) from if_pos c22]
      exact a_zret rfl rfl rfl (QF.yes (Cf.cc C2 D3))
    · rw [show baseP T e b o = (true, nx T e b, 1008 :: o) from (if_neg (by rw [c22]; decide)).trans (if_pos c23)]
      exact a_zret rfl rfl rfl (QF.yes (Cf.cc C2 D3))
  | false =>
  refine a_if_eq rfl (fun _ => ?_) (fun z => absurd rfl z)
  obtain ⟨⟨c22, c23⟩, D3⟩ := hf3 rfl
  have C3 := Cf.cc C2 D3
  have g4 := sumP_gd (T := T) (o := o) hbe
  refine a_l0 rfl rfl rfl ?_
  refine a_gV rfl lX12_208 mo_X12_readSum (h_readSum hw hbt (Cf.tt C3 hT) (Cf.rf C3) hB) rfl rfl rfl ⟨12, _, rfl, rfl, rfl⟩ rfl (fun v' h' hv => ?_)
  obtain ⟨rfl, J4, p4, rfl, hz4, hf4⟩ := hv
  rcases hr4 : sumP T e b o with ⟨z4, b4, o4⟩
  rw [baseP_s c22 c23 hr4]
  rw [hr4] at hz4 hf4 g4
  cases z4 with
  | false =>
    refine a_if_ne rfl (fun z => absurd rfl z) (fun _ => ?_)
    refine a_s rfl rfl ?_
    rw [if_neg (by decide)]
    exact a_zret rfl rfl rfl (Cf.no C3 (hf4 rfl).1 (hf4 rfl).2)
  | true =>
  refine a_if_ne rfl (fun _ => ?_) (fun z => absurd (show (1 : Int32) = 0 from z) (by decide))
  rw [if_pos rfl]
  have C4 : Cf T e n0 b4 o4 I J4 p4 := Cf.cc C3 (hz4 rfl)
  obtain ⟨-, -, g4⟩ := g4
  have g4 : b < b4 ∧ o4.length + b ≤ o.length + b4 := g4 rfl
  have key : ∀ {z5 : Bool} {x : Int32} {p' : Nat} {J : Nat → Nat → Int32}, b4 < nx T e b4 → x = (if z5 = true then 2001 else 2002) → Cf T e n0 (nx T e b4) o4 I J p' → AW S m_X12_readAtom 32 (QF T e n0 (cmpP T e x (nx T e b4) o4) I L w1 w2 t) nX 0 0 152 [some (.ref 420), some (.int (bI z5))] [] (hp J L w1 w2 t) := by
    intro z5 x p' J n4 hx C
    have g6 := sumP_gd (T := T) (o := o4) (Cf.le C)
    refine a_l0 rfl rfl rfl ?_
    refine a_gV rfl lX12_208 mo_X12_readSum (h_readSum hw hbt (Cf.tt C hT) (Cf.rf C) (by omega)) rfl rfl rfl ⟨12, _, rfl, rfl, rfl⟩ rfl (fun v' h' hv => ?_)
    obtain ⟨rfl, J6, p6, rfl, hz6, hf6⟩ := hv
    rcases hr6 : sumP T e (nx T e b4) o4 with ⟨z6, b6, o6⟩
    rw [hr6] at hz6 hf6 g6
    cases z6 with
    | false =>
      refine a_if_ne rfl (fun z => absurd rfl z) (fun _ => ?_)
      refine a_s rfl rfl ?_
      rw [cmpP_f hr6]
      exact a_zret rfl rfl rfl (Cf.no C (hf6 rfl).1 (hf6 rfl).2)
    | true =>
      refine a_if_ne rfl (fun _ => ?_) (fun z => absurd (show (1 : Int32) = 0 from z) (by decide))
      rw [cmpP_t hr6]
      have C6 : Cf T e n0 b6 o6 I J6 p6 := Cf.cc C (hz6 rfl)
      have c6e := Cf.le C6
      obtain ⟨-, -, g6⟩ := g6
      have g6 : nx T e b4 < b6 ∧ o6.length + nx T e b4 ≤ o4.length + b6 := g6 rfl
      refine a_l0 rfl rfl rfl ?_
      refine a_l1 rfl rfl rfl ?_
      cases z5 with
      | false =>
        rw [if_neg (by decide)] at hx
        subst hx
        refine a_if_eq rfl (fun _ => ?_) (fun c => absurd rfl c)
        refine a_s rfl rfl ?_
        refine a_s rfl rfl ?_
        refine a_eV0 rfl lX12_180 mo_X12_emits (r_X12_emits (Cf.st C6) (by omega)) rfl rfl rfl ⟨12, _, rfl, rfl, rfl⟩ rfl ?_
        refine a_s rfl rfl ?_
        exact a_zret rfl rfl rfl (QF.yes (Cf.em (z := 2002) C6 (by decide) (by decide)))
      | true =>
        rw [if_pos rfl] at hx
        subst hx
        refine a_if_eq rfl (fun c => absurd c (by decide)) (fun _ => ?_)
        refine a_s rfl rfl ?_
        refine a_goto rfl ?_
        refine a_s rfl rfl ?_
        refine a_eV0 rfl lX12_180 mo_X12_emits (r_X12_emits (Cf.st C6) (by omega)) rfl rfl rfl ⟨12, _, rfl, rfl, rfl⟩ rfl ?_
        refine a_s rfl rfl ?_
        exact a_zret rfl rfl rfl (QF.yes (Cf.em (z := 2001) C6 (by decide) (by decide)))
  have eT4 := Cf.tt C4 hT
  refine a_l0 rfl rfl rfl ?_
  refine a_s rfl rfl ?_
  refine a_gV rfl lX12_187 mo_X12_sign (h_sign (b := b4) (c := 60) (by rw [eT4]; exact hbt) (by decide) (Cf.pp C4) (by rw [eT4]; exact Cf.nb C4)) rfl rfl rfl ⟨12, _, rfl, rfl, rfl⟩ rfl (fun v' h' hv => ?_)
  obtain ⟨rfl, J5, rfl, h5⟩ := hv
  rw [eT4] at h5 ⊢
  refine a_s1 rfl rfl rfl rfl rfl rfl ?_
  refine a_l1 rfl rfl rfl ?_
  cases c60 : sg T e b4 (nI 60) with
  | true =>
    have c60 : sg T e b4 60 = true := c60
    refine a_if_ne rfl (fun _ => ?_) (fun z => absurd (show (1 : Int32) = 0 from z) (by decide))
    rw [if_pos (show sg T e b4 (nI 60) = true from c60)] at h5
    rw [if_pos c60]
    exact key (z5 := true) (nx_lt (sg_lt c60)) rfl (Cf.rd C4 h5 rfl)
  | false =>
  have c60 : sg T e b4 60 = false := c60
  refine a_if_ne rfl (fun z => absurd rfl z) (fun _ => ?_)
  rw [if_neg (by rw [show sg T e b4 (nI 60) = false from c60]; decide)] at h5
  rw [if_neg (by rw [c60]; decide)]
  have C5 : Cf T e n0 b4 o4 I J5 b4 := Cf.rd C4 h5 (Cf.sk C4)
  have eT5 := Cf.tt C5 hT
  refine a_l0 rfl rfl rfl ?_
  refine a_s rfl rfl ?_
  refine a_gV rfl lX12_187 mo_X12_sign (h_sign (b := b4) (c := 62) (by rw [eT5]; exact hbt) (by decide) (Cf.pp C5) (by rw [eT5]; exact Cf.nb C5)) rfl rfl rfl ⟨12, _, rfl, rfl, rfl⟩ rfl (fun v' h' hv => ?_)
  obtain ⟨rfl, J7, rfl, h7⟩ := hv
  rw [eT5] at h7 ⊢
  cases c62 : sg T e b4 (nI 62) with
  | false =>
    have c62 : sg T e b4 62 = false := c62
    refine a_if_eq rfl (fun _ => ?_) (fun z => absurd rfl z)
    rw [if_neg (by rw [show sg T e b4 (nI 62) = false from c62]; decide)] at h7
    rw [if_neg (by rw [c62]; decide)]
    refine a_s rfl rfl ?_
    exact a_zret rfl rfl rfl (QF.no (Fm.tr C5.1 (Fm.mo (Rd.fm h7) sR_sY)) (Rd.be h7))
  | true =>
    have c62 : sg T e b4 62 = true := c62
    refine a_if_eq rfl (fun z => absurd z (by decide)) (fun _ => ?_)
    rw [if_pos (show sg T e b4 (nI 62) = true from c62)] at h7
    rw [if_pos c62]
    exact key (z5 := false) (nx_lt (sg_lt c62)) rfl (Cf.rd C5 h7 rfl)
theorem h_readAllOf_2 (hw : WdS S) (hbt : BtT T) (hT : I 426 = T) (hd : I 420 13 = nI 2) (h : Cf T e n0 b o I I p) (hB : o.length < b) : Sp S m_X12_readAllOf 33 0 0 [.ref 420] (hp I L w1 w2 t) (QF T e n0 (seqP T e (atomR T e 4) 20 2004 b o) I L w1 w2 t) nX := by
  have he4 := Cf.e4 h
  have g0 := atomR_gdo (T := T) (D := 4) (o := o) (Cf.le h)
  refine Sp_of ok_X12_readAllOf rfl rfl ?_
  show AW S m_X12_readAllOf 33 _ _ 0 0 0 [some (.ref 420)] [] (hp I L w1 w2 t)
  refine a_l0 rfl rfl rfl ?_
  refine a_gV rfl lX12_202 mo_X12_readAtom (h_readAtom_2 hw hbt hT hd h hB) rfl rfl rfl ⟨12, _, rfl, rfl, rfl⟩ rfl (fun v' h' hv => ?_)
  obtain ⟨rfl, J1, p1, rfl, hz1, hf1⟩ := hv
  rcases hr : (atomR T e 4) b o with ⟨z, b1, o1⟩
  rw [seqP_of hr]
  rw [hr] at hz1 hf1 g0
  cases z with
  | false =>
    refine a_if_ne rfl (fun z => absurd rfl z) (fun _ => ?_)
    refine a_s rfl rfl ?_
    rw [if_neg (by decide)]
    exact a_zret rfl rfl rfl (QF.no (hf1 rfl).1 (hf1 rfl).2)
  | true =>
  refine a_if_ne rfl (fun _ => ?_) (fun z => absurd (show (1 : Int32) = 0 from z) (by decide))
  rw [if_pos rfl]
  obtain ⟨-, -, g3⟩ := g0
  have g3 : b < b1 ∧ o1.length + b ≤ o.length + b1 := g3 rfl
  generalize hR : loopP T e (atomR T e 4) 20 2004 b1 o1 = R
  refine a_inv (n := e - b1) (fun m ls h => ls = [some (.ref 420)] ∧ ∃ J p' b' o', h = hp J L w1 w2 t ∧ Cf T e n0 b' o' I J p' ∧ o'.length < b' ∧ loopP T e (atomR T e 4) 20 2004 b' o' = R ∧ m = e - b') ⟨rfl, J1, p1, _, _, rfl, hz1 rfl, by show o1.length < b1; omega, hR, rfl⟩ ?_
  rintro m _ _ ⟨rfl, J, p', b', o', rfl, C, hB', es, hm⟩ ih
  have eT := Cf.tt C hT
  refine a_l0 rfl rfl rfl ?_
  refine a_ldcs (q := 130 + 20) rfl (hw.ld (i := 20) (by decide)) ?_
  refine a_gV rfl lX12_128 mo_X12_passes (h_passes (b := b') (k := 20) hw (by decide) (Cf.pp C) (by rw [eT]; exact Cf.nb C)) rfl rfl rfl ⟨12, _, rfl, rfl, rfl⟩ rfl (fun v' h' hv => ?_)
  obtain ⟨rfl, J2, rfl, h2⟩ := hv
  rw [eT] at h2 ⊢
  cases cw : isWd T e b' 20 with
  | false =>
    refine a_if_eq rfl (fun _ => ?_) (fun z => absurd rfl z)
    rw [if_neg (by rw [cw]; decide)] at h2
    refine a_s rfl rfl ?_
    rw [← es, loopP_f cw]
    exact a_zret rfl rfl rfl (QF.yes (Cf.rd C h2 (Cf.sk C)))
  | true =>
    refine a_if_eq rfl (fun z => absurd z (by decide)) (fun _ => ?_)
    rw [if_pos cw] at h2
    have n2 := nx_lt (T := T) (isWd_lt cw)
    have C2 : Cf T e n0 (nx T e b') o' I J2 (en T e b') := Cf.rd C h2 rfl
    have n2e := Cf.le C2
    have g4 := atomR_gdo (T := T) (D := 4) (o := o') n2e
    refine a_l0 rfl rfl rfl ?_
    refine a_gV rfl lX12_202 mo_X12_readAtom (h_readAtom_2 hw hbt (Cf.tt C2 hT) (Cf.d C2 hd) (Cf.rf C2) (by omega)) rfl rfl rfl ⟨12, _, rfl, rfl, rfl⟩ rfl (fun v' h' hv => ?_)
    obtain ⟨rfl, J3, p3, rfl, hz3, hf3⟩ := hv
    have el := fun g => loopP_t (op := 2004) (o := o') (item := atomR T e 4) cw g
    have en' := loopP_n (op := 2004) (o := o') (item := atomR T e 4) cw
    rcases hr2 : (atomR T e 4) (nx T e b') o' with ⟨z2, b2, o2⟩
    rw [hr2] at hz3 hf3 g4 el en'
    cases z2 with
    | false =>
      refine a_if_ne rfl (fun z => absurd rfl z) (fun _ => ?_)
      refine a_s rfl rfl ?_
      rw [← es, en' Bool.false_ne_true]
      exact a_zret rfl rfl rfl (Cf.no C2 (hf3 rfl).1 (hf3 rfl).2)
    | true =>
      refine a_if_ne rfl (fun _ => ?_) (fun z => absurd (show (1 : Int32) = 0 from z) (by decide))
      have C3 : Cf T e n0 b2 o2 I J3 p3 := Cf.cc C2 (hz3 rfl)
      have c3e := Cf.le C3
      obtain ⟨-, -, g5⟩ := g4
      have g5 : nx T e b' < b2 ∧ o2.length + nx T e b' ≤ o'.length + b2 := g5 rfl
      have es2 : loopP T e (atomR T e 4) 20 2004 b2 (2004 :: o2) = R := (el (by show b' < b2; omega) rfl).symm.trans es
      refine a_l0 rfl rfl rfl ?_
      refine a_s rfl rfl ?_
      refine a_s rfl rfl ?_
      refine a_eV0 rfl lX12_180 mo_X12_emits (r_X12_emits (Cf.st C3) (by omega)) rfl rfl rfl ⟨12, _, rfl, rfl, rfl⟩ rfl ?_
      refine a_goto rfl ?_
      exact ih (e - b2) _ _ (by omega) ⟨rfl, _, p3, b2, _, rfl, Cf.em (z := 2004) C3 (by decide) (by decide), by show o2.length + 1 < b2; omega, es2, rfl⟩
theorem h_readCond_2 (hw : WdS S) (hbt : BtT T) (hT : I 426 = T) (hd : I 420 13 = nI 2) (h : Cf T e n0 b o I I p) (hB : o.length < b) : Sp S m_X12_readCond 34 0 0 [.ref 420] (hp I L w1 w2 t) (QF T e n0 (seqP T e (seqP T e (atomR T e 4) 20 2004) 19 2005 b o) I L w1 w2 t) nX := by
  have he4 := Cf.e4 h
  have g0 := seqA_gd (T := T) (D := 4) (o := o) (Cf.le h)
  refine Sp_of ok_X12_readCond rfl rfl ?_
  show AW S m_X12_readCond 34 _ _ 0 0 0 [some (.ref 420)] [] (hp I L w1 w2 t)
  refine a_l0 rfl rfl rfl ?_
  refine a_gV rfl lX12_213 mo_X12_readAllOf (h_readAllOf_2 hw hbt hT hd h hB) rfl rfl rfl ⟨12, _, rfl, rfl, rfl⟩ rfl (fun v' h' hv => ?_)
  obtain ⟨rfl, J1, p1, rfl, hz1, hf1⟩ := hv
  rcases hr : (seqP T e (atomR T e 4) 20 2004) b o with ⟨z, b1, o1⟩
  rw [seqP_of hr]
  rw [hr] at hz1 hf1 g0
  cases z with
  | false =>
    refine a_if_ne rfl (fun z => absurd rfl z) (fun _ => ?_)
    refine a_s rfl rfl ?_
    rw [if_neg (by decide)]
    exact a_zret rfl rfl rfl (QF.no (hf1 rfl).1 (hf1 rfl).2)
  | true =>
  refine a_if_ne rfl (fun _ => ?_) (fun z => absurd (show (1 : Int32) = 0 from z) (by decide))
  rw [if_pos rfl]
  obtain ⟨-, -, g3⟩ := g0
  have g3 : b < b1 ∧ o1.length + b ≤ o.length + b1 := g3 rfl
  generalize hR : loopP T e (seqP T e (atomR T e 4) 20 2004) 19 2005 b1 o1 = R
  refine a_inv (n := e - b1) (fun m ls h => ls = [some (.ref 420)] ∧ ∃ J p' b' o', h = hp J L w1 w2 t ∧ Cf T e n0 b' o' I J p' ∧ o'.length < b' ∧ loopP T e (seqP T e (atomR T e 4) 20 2004) 19 2005 b' o' = R ∧ m = e - b') ⟨rfl, J1, p1, _, _, rfl, hz1 rfl, by show o1.length < b1; omega, hR, rfl⟩ ?_
  rintro m _ _ ⟨rfl, J, p', b', o', rfl, C, hB', es, hm⟩ ih
  have eT := Cf.tt C hT
  refine a_l0 rfl rfl rfl ?_
  refine a_ldcs (q := 130 + 19) rfl (hw.ld (i := 19) (by decide)) ?_
  refine a_gV rfl lX12_128 mo_X12_passes (h_passes (b := b') (k := 19) hw (by decide) (Cf.pp C) (by rw [eT]; exact Cf.nb C)) rfl rfl rfl ⟨12, _, rfl, rfl, rfl⟩ rfl (fun v' h' hv => ?_)
  obtain ⟨rfl, J2, rfl, h2⟩ := hv
  rw [eT] at h2 ⊢
  cases cw : isWd T e b' 19 with
  | false =>
    refine a_if_eq rfl (fun _ => ?_) (fun z => absurd rfl z)
    rw [if_neg (by rw [cw]; decide)] at h2
    refine a_s rfl rfl ?_
    rw [← es, loopP_f cw]
    exact a_zret rfl rfl rfl (QF.yes (Cf.rd C h2 (Cf.sk C)))
  | true =>
    refine a_if_eq rfl (fun z => absurd z (by decide)) (fun _ => ?_)
    rw [if_pos cw] at h2
    have n2 := nx_lt (T := T) (isWd_lt cw)
    have C2 : Cf T e n0 (nx T e b') o' I J2 (en T e b') := Cf.rd C h2 rfl
    have n2e := Cf.le C2
    have g4 := seqA_gd (T := T) (D := 4) (o := o') n2e
    refine a_l0 rfl rfl rfl ?_
    refine a_gV rfl lX12_213 mo_X12_readAllOf (h_readAllOf_2 hw hbt (Cf.tt C2 hT) (Cf.d C2 hd) (Cf.rf C2) (by omega)) rfl rfl rfl ⟨12, _, rfl, rfl, rfl⟩ rfl (fun v' h' hv => ?_)
    obtain ⟨rfl, J3, p3, rfl, hz3, hf3⟩ := hv
    have el := fun g => loopP_t (op := 2005) (o := o') (item := seqP T e (atomR T e 4) 20 2004) cw g
    have en' := loopP_n (op := 2005) (o := o') (item := seqP T e (atomR T e 4) 20 2004) cw
    rcases hr2 : (seqP T e (atomR T e 4) 20 2004) (nx T e b') o' with ⟨z2, b2, o2⟩
    rw [hr2] at hz3 hf3 g4 el en'
    cases z2 with
    | false =>
      refine a_if_ne rfl (fun z => absurd rfl z) (fun _ => ?_)
      refine a_s rfl rfl ?_
      rw [← es, en' Bool.false_ne_true]
      exact a_zret rfl rfl rfl (Cf.no C2 (hf3 rfl).1 (hf3 rfl).2)
    | true =>
      refine a_if_ne rfl (fun _ => ?_) (fun z => absurd (show (1 : Int32) = 0 from z) (by decide))
      have C3 : Cf T e n0 b2 o2 I J3 p3 := Cf.cc C2 (hz3 rfl)
      have c3e := Cf.le C3
      obtain ⟨-, -, g5⟩ := g4
      have g5 : nx T e b' < b2 ∧ o2.length + nx T e b' ≤ o'.length + b2 := g5 rfl
      have es2 : loopP T e (seqP T e (atomR T e 4) 20 2004) 19 2005 b2 (2005 :: o2) = R := (el (by show b' < b2; omega) rfl).symm.trans es
      refine a_l0 rfl rfl rfl ?_
      refine a_s rfl rfl ?_
      refine a_s rfl rfl ?_
      refine a_eV0 rfl lX12_180 mo_X12_emits (r_X12_emits (Cf.st C3) (by omega)) rfl rfl rfl ⟨12, _, rfl, rfl, rfl⟩ rfl ?_
      refine a_goto rfl ?_
      exact ih (e - b2) _ _ (by omega) ⟨rfl, _, p3, b2, _, rfl, Cf.em (z := 2005) C3 (by decide) (by decide), by show o2.length + 1 < b2; omega, es2, rfl⟩
theorem h_readAtom_1 (hw : WdS S) (hbt : BtT T) (hT : I 426 = T) (hd : I 420 13 = nI 1) (h : Cf T e n0 b o I I p) (hB : o.length < b) : Sp S m_X12_readAtom 35 0 0 [.ref 420] (hp I L w1 w2 t) (QF T e n0 (atomR T e 5 b o) I L w1 w2 t) nX := by
  have he4 := Cf.e4 h
  have hbe := Cf.le h
  refine Sp_of ok_X12_readAtom rfl rfl ?_
  show AW S m_X12_readAtom 35 _ _ 0 0 0 [some (.ref 420), none] [] (hp I L w1 w2 t)
  refine a_l0 rfl rfl rfl ?_
  refine a_s rfl rfl ?_
  refine a_gV rfl lX12_187 mo_X12_sign (h_sign (b := b) (c := 40) (by rw [hT]; exact hbt) (by decide) (Cf.pp h) (by rw [hT]; exact Cf.nb h)) rfl rfl rfl ⟨12, _, rfl, rfl, rfl⟩ rfl (fun v' h' hv => ?_)
  obtain ⟨rfl, J1, rfl, h1⟩ := hv
  rw [hT] at h1 ⊢
  cases c40 : sg T e b (nI 40) with
  | true =>
    have c40 : sg T e b 40 = true := c40
    refine a_if_eq rfl (fun z => absurd z (by decide)) (fun _ => ?_)
    rw [if_pos (show sg T e b (nI 40) = true from c40)] at h1
    have n1 := nx_lt (T := T) (sg_lt c40)
    have C1 : Cf T e n0 (nx T e b) o I J1 (en T e b) := Cf.rd h h1 rfl
    refine a_l0 rfl rfl rfl ?_
    refine a_geti rfl gfX12_194_12 rfl ?_
    refine a_top (y := nI 1) (Cf.d C1 hd) ?_
    refine a_s rfl rfl ?_
    refine a_ic_ne rfl (fun _ => ?_) (fun c => absurd c (by decide))
    refine a_l0 rfl rfl rfl ?_
    refine a_s rfl rfl ?_
    refine a_geti rfl gfX12_194_12 rfl ?_
    refine a_top (y := nI 1) (Cf.d C1 hd) ?_
    refine a_s rfl rfl ?_
    refine a_s rfl rfl ?_
    refine a_top (y := nI 2) (rfl) ?_
    refine a_puti rfl pfX12_194_12 rfl ?_
    refine a_l0 rfl rfl rfl ?_
    have g4 := cndP_gd (T := T) (fun b o h => atomR_gd (T := T) 4 b o h) (o := o) (Cf.le C1)
    refine a_gV rfl lX12_197 mo_X12_readCond (h_readCond_2 hw hbt ((up2_row (by decide)).trans (Cf.tt C1 hT)) up2_at (Cf.up13 C1) (by omega)) rfl rfl rfl ⟨12, _, rfl, rfl, rfl⟩ rfl (fun v' h' hv => ?_)
    obtain ⟨rfl, J9, p9, rfl, hz9, hf9⟩ := hv
    rw [show seqP T e (seqP T e (atomR T e 4) 20 2004) 19 2005 = cndP T e (atomR T e 4) from rfl] at hz9 hf9 ⊢
    rcases hr9 : cndP T e (atomR T e 4) (nx T e b) o with ⟨z9, b9, o9⟩
    rw [hr9] at hz9 hf9 g4
    rw [atomR_p c40 hr9]
    cases z9 with
    | false =>
      refine a_if_ne rfl (fun z => absurd rfl z) (fun _ => ?_)
      refine a_s rfl rfl ?_
      rw [if_neg (by decide)]
      exact a_zret rfl rfl rfl (QF.no (Fm.tr C1.1 (Fm.tr (Fm.up Fm.rf rfl) (hf9 rfl).1)) (hf9 rfl).2)
    | true =>
      refine a_if_ne rfl (fun _ => ?_) (fun z => absurd (show (1 : Int32) = 0 from z) (by decide))
      rw [if_pos rfl]
      have D9 : Cf T e n0 b9 o9 (up2 J1 420 13 (nI 2)) J9 p9 := hz9 rfl
      refine a_l0 rfl rfl rfl ?_
      refine a_s rfl rfl ?_
      refine a_geti rfl gfX12_194_12 rfl ?_
      refine a_top (y := nI 2) (D9.2.1.trans up2_at) ?_
      refine a_s rfl rfl ?_
      refine a_s rfl rfl ?_
      refine a_top (y := nI 1) (rfl) ?_
      refine a_puti rfl pfX12_194_12 rfl ?_
      have C9 := Cf.deep C1 hd D9
      have eT9 := Cf.tt C9 hT
      refine a_l0 rfl rfl rfl ?_
      refine a_s rfl rfl ?_
      refine a_gV rfl lX12_187 mo_X12_sign (h_sign (b := b9) (c := 41) (by rw [eT9]; exact hbt) (by decide) (Cf.pp C9) (by rw [eT9]; exact Cf.nb C9)) rfl rfl rfl ⟨12, _, rfl, rfl, rfl⟩ rfl (fun v' h' hv => ?_)
      obtain ⟨rfl, J3, rfl, h3⟩ := hv
      rw [eT9] at h3 ⊢
      cases c41 : sg T e b9 (nI 41) with
      | false =>
        have c41 : sg T e b9 41 = false := c41
        rw [if_neg (by rw [show sg T e b9 (nI 41) = false from c41]; decide)] at h3
        rw [if_neg (by rw [c41]; decide)]
        exact a_zret rfl rfl rfl (QF.no (Fm.tr C9.1 (Fm.mo (Rd.fm h3) sR_sY)) (Rd.be h3))
      | true =>
        have c41 : sg T e b9 41 = true := c41
        rw [if_pos (show sg T e b9 (nI 41) = true from c41)] at h3
        rw [if_pos c41]
        exact a_zret rfl rfl rfl (QF.yes (Cf.rd C9 h3 rfl))
  | false =>
  have c40 : sg T e b 40 = false := c40
  refine a_if_eq rfl (fun _ => ?_) (fun z => absurd rfl z)
  rw [if_neg (by rw [show sg T e b (nI 40) = false from c40]; decide)] at h1
  have C0 : Cf T e n0 b o I J1 b := Cf.rd h h1 (Cf.sk h)
  have eT0 := Cf.tt C0 hT
  refine a_l0 rfl rfl rfl ?_
  refine a_ldcs (q := 130 + 21) rfl (hw.ld (i := 21) (by decide)) ?_
  refine a_gV rfl lX12_128 mo_X12_passes (h_passes (b := b) (k := 21) hw (by decide) (Cf.pp C0) (by rw [eT0]; exact Cf.nb C0)) rfl rfl rfl ⟨12, _, rfl, rfl, rfl⟩ rfl (fun v' h' hv => ?_)
  obtain ⟨rfl, J2, rfl, h2⟩ := hv
  rw [eT0] at h2 ⊢
  cases c21 : isWd T e b 21 with
  | true =>
    refine a_if_eq rfl (fun z => absurd z (by decide)) (fun _ => ?_)
    rw [if_pos c21] at h2
    have n1 := nx_lt (T := T) (isWd_lt c21)
    have C2 : Cf T e n0 (nx T e b) o I J2 (en T e b) := Cf.rd C0 h2 rfl
    refine a_l0 rfl rfl rfl ?_
    refine a_geti rfl gfX12_194_12 rfl ?_
    refine a_top (y := nI 1) (Cf.d C2 hd) ?_
    refine a_s rfl rfl ?_
    refine a_ic_ne rfl (fun _ => ?_) (fun c => absurd c (by decide))
    refine a_l0 rfl rfl rfl ?_
    refine a_s rfl rfl ?_
    refine a_geti rfl gfX12_194_12 rfl ?_
    refine a_top (y := nI 1) (Cf.d C2 hd) ?_
    refine a_s rfl rfl ?_
    refine a_s rfl rfl ?_
    refine a_top (y := nI 2) (rfl) ?_
    refine a_puti rfl pfX12_194_12 rfl ?_
    refine a_l0 rfl rfl rfl ?_
    have g4 := atomR_gdo (T := T) (D := 4) (o := o) (Cf.le C2)
    refine a_gV rfl lX12_202 mo_X12_readAtom (h_readAtom_2 hw hbt ((up2_row (by decide)).trans (Cf.tt C2 hT)) up2_at (Cf.up13 C2) (by omega)) rfl rfl rfl ⟨12, _, rfl, rfl, rfl⟩ rfl (fun v' h' hv => ?_)
    obtain ⟨rfl, J9, p9, rfl, hz9, hf9⟩ := hv
    rcases hr9 : atomR T e 4 (nx T e b) o with ⟨z9, b9, o9⟩
    rw [hr9] at hz9 hf9 g4
    rw [atomR_n c40 c21 hr9]
    cases z9 with
    | false =>
      refine a_if_ne rfl (fun z => absurd rfl z) (fun _ => ?_)
      refine a_s rfl rfl ?_
      rw [if_neg (by decide)]
      exact a_zret rfl rfl rfl (QF.no (Fm.tr C2.1 (Fm.tr (Fm.up Fm.rf rfl) (hf9 rfl).1)) (hf9 rfl).2)
    | true =>
      refine a_if_ne rfl (fun _ => ?_) (fun z => absurd (show (1 : Int32) = 0 from z) (by decide))
      rw [if_pos rfl]
      have D9 : Cf T e n0 b9 o9 (up2 J2 420 13 (nI 2)) J9 p9 := hz9 rfl
      obtain ⟨-, -, g5⟩ := g4
      have g5 : nx T e b < b9 ∧ o9.length + nx T e b ≤ o.length + b9 := g5 rfl
      have c9e := Cf.le D9
      refine a_l0 rfl rfl rfl ?_
      refine a_s rfl rfl ?_
      refine a_geti rfl gfX12_194_12 rfl ?_
      refine a_top (y := nI 2) (D9.2.1.trans up2_at) ?_
      refine a_s rfl rfl ?_
      refine a_s rfl rfl ?_
      refine a_top (y := nI 1) (rfl) ?_
      refine a_puti rfl pfX12_194_12 rfl ?_
      have C9 := Cf.deep C2 hd D9
      refine a_l0 rfl rfl rfl ?_
      refine a_s rfl rfl ?_
      refine a_s rfl rfl ?_
      refine a_eV0 rfl lX12_180 mo_X12_emits (r_X12_emits (Cf.st C9) (by omega)) rfl rfl rfl ⟨12, _, rfl, rfl, rfl⟩ rfl ?_
      refine a_s rfl rfl ?_
      exact a_zret rfl rfl rfl (QF.yes (Cf.em (z := 2003) C9 (by decide) (by decide)))
  | false =>
  refine a_if_eq rfl (fun _ => ?_) (fun z => absurd rfl z)
  rw [if_neg (by rw [c21]; decide)] at h2
  have C2 : Cf T e n0 b o I J2 b := Cf.rd C0 h2 (Cf.sk C0)
  rw [atomR_b c40 c21]
  refine a_l0 rfl rfl rfl ?_
  refine a_gV rfl lX12_205 mo_X12_readTag (h_readTag hw (Cf.tt C2 hT) (Cf.rf C2) hB) rfl rfl rfl ⟨12, _, rfl, rfl, rfl⟩ rfl (fun v' h' hv => ?_)
  obtain ⟨z3, x3, J3, p3, rfl, rfl, ht3, hf3⟩ := hv
  cases z3 with
  | true =>
    refine a_if_eq rfl (fun z => absurd z (by decide)) (fun _ => ?_)
    refine a_s rfl rfl ?_
    obtain ⟨hx, D3⟩ := ht3 rfl
    rcases hx with ⟨c22, rfl⟩ | ⟨c22, c23, rfl⟩
    · rw [show baseP T e b o = (true, nx T e b, 1007 :: o) from if_pos c22]
      exact a_zret rfl rfl rfl (QF.yes (Cf.cc C2 D3))
    · rw [show baseP T e b o = (true, nx T e b, 1008 :: o) from (if_neg (by rw [c22]; decide)).trans (if_pos c23)]
      exact a_zret rfl rfl rfl (QF.yes (Cf.cc C2 D3))
  | false =>
  refine a_if_eq rfl (fun _ => ?_) (fun z => absurd rfl z)
  obtain ⟨⟨c22, c23⟩, D3⟩ := hf3 rfl
  have C3 := Cf.cc C2 D3
  have g4 := sumP_gd (T := T) (o := o) hbe
  refine a_l0 rfl rfl rfl ?_
  refine a_gV rfl lX12_208 mo_X12_readSum (h_readSum hw hbt (Cf.tt C3 hT) (Cf.rf C3) hB) rfl rfl rfl ⟨12, _, rfl, rfl, rfl⟩ rfl (fun v' h' hv => ?_)
  obtain ⟨rfl, J4, p4, rfl, hz4, hf4⟩ := hv
  rcases hr4 : sumP T e b o with ⟨z4, b4, o4⟩
  rw [baseP_s c22 c23 hr4]
  rw [hr4] at hz4 hf4 g4
  cases z4 with
  | false =>
    refine a_if_ne rfl (fun z => absurd rfl z) (fun _ => ?_)
    refine a_s rfl rfl ?_
    rw [if_neg (by decide)]
    exact a_zret rfl rfl rfl (Cf.no C3 (hf4 rfl).1 (hf4 rfl).2)
  | true =>
  refine a_if_ne rfl (fun _ => ?_) (fun z => absurd (show (1 : Int32) = 0 from z) (by decide))
  rw [if_pos rfl]
  have C4 : Cf T e n0 b4 o4 I J4 p4 := Cf.cc C3 (hz4 rfl)
  obtain ⟨-, -, g4⟩ := g4
  have g4 : b < b4 ∧ o4.length + b ≤ o.length + b4 := g4 rfl
  have key : ∀ {z5 : Bool} {x : Int32} {p' : Nat} {J : Nat → Nat → Int32}, b4 < nx T e b4 → x = (if z5 = true then 2001 else 2002) → Cf T e n0 (nx T e b4) o4 I J p' → AW S m_X12_readAtom 35 (QF T e n0 (cmpP T e x (nx T e b4) o4) I L w1 w2 t) nX 0 0 152 [some (.ref 420), some (.int (bI z5))] [] (hp J L w1 w2 t) := by
    intro z5 x p' J n4 hx C
    have g6 := sumP_gd (T := T) (o := o4) (Cf.le C)
    refine a_l0 rfl rfl rfl ?_
    refine a_gV rfl lX12_208 mo_X12_readSum (h_readSum hw hbt (Cf.tt C hT) (Cf.rf C) (by omega)) rfl rfl rfl ⟨12, _, rfl, rfl, rfl⟩ rfl (fun v' h' hv => ?_)
    obtain ⟨rfl, J6, p6, rfl, hz6, hf6⟩ := hv
    rcases hr6 : sumP T e (nx T e b4) o4 with ⟨z6, b6, o6⟩
    rw [hr6] at hz6 hf6 g6
    cases z6 with
    | false =>
      refine a_if_ne rfl (fun z => absurd rfl z) (fun _ => ?_)
      refine a_s rfl rfl ?_
      rw [cmpP_f hr6]
      exact a_zret rfl rfl rfl (Cf.no C (hf6 rfl).1 (hf6 rfl).2)
    | true =>
      refine a_if_ne rfl (fun _ => ?_) (fun z => absurd (show (1 : Int32) = 0 from z) (by decide))
      rw [cmpP_t hr6]
      have C6 : Cf T e n0 b6 o6 I J6 p6 := Cf.cc C (hz6 rfl)
      have c6e := Cf.le C6
      obtain ⟨-, -, g6⟩ := g6
      have g6 : nx T e b4 < b6 ∧ o6.length + nx T e b4 ≤ o4.length + b6 := g6 rfl
      refine a_l0 rfl rfl rfl ?_
      refine a_l1 rfl rfl rfl ?_
      cases z5 with
      | false =>
        rw [if_neg (by decide)] at hx
        subst hx
        refine a_if_eq rfl (fun _ => ?_) (fun c => absurd rfl c)
        refine a_s rfl rfl ?_
        refine a_s rfl rfl ?_
        refine a_eV0 rfl lX12_180 mo_X12_emits (r_X12_emits (Cf.st C6) (by omega)) rfl rfl rfl ⟨12, _, rfl, rfl, rfl⟩ rfl ?_
        refine a_s rfl rfl ?_
        exact a_zret rfl rfl rfl (QF.yes (Cf.em (z := 2002) C6 (by decide) (by decide)))
      | true =>
        rw [if_pos rfl] at hx
        subst hx
        refine a_if_eq rfl (fun c => absurd c (by decide)) (fun _ => ?_)
        refine a_s rfl rfl ?_
        refine a_goto rfl ?_
        refine a_s rfl rfl ?_
        refine a_eV0 rfl lX12_180 mo_X12_emits (r_X12_emits (Cf.st C6) (by omega)) rfl rfl rfl ⟨12, _, rfl, rfl, rfl⟩ rfl ?_
        refine a_s rfl rfl ?_
        exact a_zret rfl rfl rfl (QF.yes (Cf.em (z := 2001) C6 (by decide) (by decide)))
  have eT4 := Cf.tt C4 hT
  refine a_l0 rfl rfl rfl ?_
  refine a_s rfl rfl ?_
  refine a_gV rfl lX12_187 mo_X12_sign (h_sign (b := b4) (c := 60) (by rw [eT4]; exact hbt) (by decide) (Cf.pp C4) (by rw [eT4]; exact Cf.nb C4)) rfl rfl rfl ⟨12, _, rfl, rfl, rfl⟩ rfl (fun v' h' hv => ?_)
  obtain ⟨rfl, J5, rfl, h5⟩ := hv
  rw [eT4] at h5 ⊢
  refine a_s1 rfl rfl rfl rfl rfl rfl ?_
  refine a_l1 rfl rfl rfl ?_
  cases c60 : sg T e b4 (nI 60) with
  | true =>
    have c60 : sg T e b4 60 = true := c60
    refine a_if_ne rfl (fun _ => ?_) (fun z => absurd (show (1 : Int32) = 0 from z) (by decide))
    rw [if_pos (show sg T e b4 (nI 60) = true from c60)] at h5
    rw [if_pos c60]
    exact key (z5 := true) (nx_lt (sg_lt c60)) rfl (Cf.rd C4 h5 rfl)
  | false =>
  have c60 : sg T e b4 60 = false := c60
  refine a_if_ne rfl (fun z => absurd rfl z) (fun _ => ?_)
  rw [if_neg (by rw [show sg T e b4 (nI 60) = false from c60]; decide)] at h5
  rw [if_neg (by rw [c60]; decide)]
  have C5 : Cf T e n0 b4 o4 I J5 b4 := Cf.rd C4 h5 (Cf.sk C4)
  have eT5 := Cf.tt C5 hT
  refine a_l0 rfl rfl rfl ?_
  refine a_s rfl rfl ?_
  refine a_gV rfl lX12_187 mo_X12_sign (h_sign (b := b4) (c := 62) (by rw [eT5]; exact hbt) (by decide) (Cf.pp C5) (by rw [eT5]; exact Cf.nb C5)) rfl rfl rfl ⟨12, _, rfl, rfl, rfl⟩ rfl (fun v' h' hv => ?_)
  obtain ⟨rfl, J7, rfl, h7⟩ := hv
  rw [eT5] at h7 ⊢
  cases c62 : sg T e b4 (nI 62) with
  | false =>
    have c62 : sg T e b4 62 = false := c62
    refine a_if_eq rfl (fun _ => ?_) (fun z => absurd rfl z)
    rw [if_neg (by rw [show sg T e b4 (nI 62) = false from c62]; decide)] at h7
    rw [if_neg (by rw [c62]; decide)]
    refine a_s rfl rfl ?_
    exact a_zret rfl rfl rfl (QF.no (Fm.tr C5.1 (Fm.mo (Rd.fm h7) sR_sY)) (Rd.be h7))
  | true =>
    have c62 : sg T e b4 62 = true := c62
    refine a_if_eq rfl (fun z => absurd z (by decide)) (fun _ => ?_)
    rw [if_pos (show sg T e b4 (nI 62) = true from c62)] at h7
    rw [if_pos c62]
    exact key (z5 := false) (nx_lt (sg_lt c62)) rfl (Cf.rd C5 h7 rfl)
theorem h_readAllOf_1 (hw : WdS S) (hbt : BtT T) (hT : I 426 = T) (hd : I 420 13 = nI 1) (h : Cf T e n0 b o I I p) (hB : o.length < b) : Sp S m_X12_readAllOf 36 0 0 [.ref 420] (hp I L w1 w2 t) (QF T e n0 (seqP T e (atomR T e 5) 20 2004 b o) I L w1 w2 t) nX := by
  have he4 := Cf.e4 h
  have g0 := atomR_gdo (T := T) (D := 5) (o := o) (Cf.le h)
  refine Sp_of ok_X12_readAllOf rfl rfl ?_
  show AW S m_X12_readAllOf 36 _ _ 0 0 0 [some (.ref 420)] [] (hp I L w1 w2 t)
  refine a_l0 rfl rfl rfl ?_
  refine a_gV rfl lX12_202 mo_X12_readAtom (h_readAtom_1 hw hbt hT hd h hB) rfl rfl rfl ⟨12, _, rfl, rfl, rfl⟩ rfl (fun v' h' hv => ?_)
  obtain ⟨rfl, J1, p1, rfl, hz1, hf1⟩ := hv
  rcases hr : (atomR T e 5) b o with ⟨z, b1, o1⟩
  rw [seqP_of hr]
  rw [hr] at hz1 hf1 g0
  cases z with
  | false =>
    refine a_if_ne rfl (fun z => absurd rfl z) (fun _ => ?_)
    refine a_s rfl rfl ?_
    rw [if_neg (by decide)]
    exact a_zret rfl rfl rfl (QF.no (hf1 rfl).1 (hf1 rfl).2)
  | true =>
  refine a_if_ne rfl (fun _ => ?_) (fun z => absurd (show (1 : Int32) = 0 from z) (by decide))
  rw [if_pos rfl]
  obtain ⟨-, -, g3⟩ := g0
  have g3 : b < b1 ∧ o1.length + b ≤ o.length + b1 := g3 rfl
  generalize hR : loopP T e (atomR T e 5) 20 2004 b1 o1 = R
  refine a_inv (n := e - b1) (fun m ls h => ls = [some (.ref 420)] ∧ ∃ J p' b' o', h = hp J L w1 w2 t ∧ Cf T e n0 b' o' I J p' ∧ o'.length < b' ∧ loopP T e (atomR T e 5) 20 2004 b' o' = R ∧ m = e - b') ⟨rfl, J1, p1, _, _, rfl, hz1 rfl, by show o1.length < b1; omega, hR, rfl⟩ ?_
  rintro m _ _ ⟨rfl, J, p', b', o', rfl, C, hB', es, hm⟩ ih
  have eT := Cf.tt C hT
  refine a_l0 rfl rfl rfl ?_
  refine a_ldcs (q := 130 + 20) rfl (hw.ld (i := 20) (by decide)) ?_
  refine a_gV rfl lX12_128 mo_X12_passes (h_passes (b := b') (k := 20) hw (by decide) (Cf.pp C) (by rw [eT]; exact Cf.nb C)) rfl rfl rfl ⟨12, _, rfl, rfl, rfl⟩ rfl (fun v' h' hv => ?_)
  obtain ⟨rfl, J2, rfl, h2⟩ := hv
  rw [eT] at h2 ⊢
  cases cw : isWd T e b' 20 with
  | false =>
    refine a_if_eq rfl (fun _ => ?_) (fun z => absurd rfl z)
    rw [if_neg (by rw [cw]; decide)] at h2
    refine a_s rfl rfl ?_
    rw [← es, loopP_f cw]
    exact a_zret rfl rfl rfl (QF.yes (Cf.rd C h2 (Cf.sk C)))
  | true =>
    refine a_if_eq rfl (fun z => absurd z (by decide)) (fun _ => ?_)
    rw [if_pos cw] at h2
    have n2 := nx_lt (T := T) (isWd_lt cw)
    have C2 : Cf T e n0 (nx T e b') o' I J2 (en T e b') := Cf.rd C h2 rfl
    have n2e := Cf.le C2
    have g4 := atomR_gdo (T := T) (D := 5) (o := o') n2e
    refine a_l0 rfl rfl rfl ?_
    refine a_gV rfl lX12_202 mo_X12_readAtom (h_readAtom_1 hw hbt (Cf.tt C2 hT) (Cf.d C2 hd) (Cf.rf C2) (by omega)) rfl rfl rfl ⟨12, _, rfl, rfl, rfl⟩ rfl (fun v' h' hv => ?_)
    obtain ⟨rfl, J3, p3, rfl, hz3, hf3⟩ := hv
    have el := fun g => loopP_t (op := 2004) (o := o') (item := atomR T e 5) cw g
    have en' := loopP_n (op := 2004) (o := o') (item := atomR T e 5) cw
    rcases hr2 : (atomR T e 5) (nx T e b') o' with ⟨z2, b2, o2⟩
    rw [hr2] at hz3 hf3 g4 el en'
    cases z2 with
    | false =>
      refine a_if_ne rfl (fun z => absurd rfl z) (fun _ => ?_)
      refine a_s rfl rfl ?_
      rw [← es, en' Bool.false_ne_true]
      exact a_zret rfl rfl rfl (Cf.no C2 (hf3 rfl).1 (hf3 rfl).2)
    | true =>
      refine a_if_ne rfl (fun _ => ?_) (fun z => absurd (show (1 : Int32) = 0 from z) (by decide))
      have C3 : Cf T e n0 b2 o2 I J3 p3 := Cf.cc C2 (hz3 rfl)
      have c3e := Cf.le C3
      obtain ⟨-, -, g5⟩ := g4
      have g5 : nx T e b' < b2 ∧ o2.length + nx T e b' ≤ o'.length + b2 := g5 rfl
      have es2 : loopP T e (atomR T e 5) 20 2004 b2 (2004 :: o2) = R := (el (by show b' < b2; omega) rfl).symm.trans es
      refine a_l0 rfl rfl rfl ?_
      refine a_s rfl rfl ?_
      refine a_s rfl rfl ?_
      refine a_eV0 rfl lX12_180 mo_X12_emits (r_X12_emits (Cf.st C3) (by omega)) rfl rfl rfl ⟨12, _, rfl, rfl, rfl⟩ rfl ?_
      refine a_goto rfl ?_
      exact ih (e - b2) _ _ (by omega) ⟨rfl, _, p3, b2, _, rfl, Cf.em (z := 2004) C3 (by decide) (by decide), by show o2.length + 1 < b2; omega, es2, rfl⟩
theorem h_readCond_1 (hw : WdS S) (hbt : BtT T) (hT : I 426 = T) (hd : I 420 13 = nI 1) (h : Cf T e n0 b o I I p) (hB : o.length < b) : Sp S m_X12_readCond 37 0 0 [.ref 420] (hp I L w1 w2 t) (QF T e n0 (seqP T e (seqP T e (atomR T e 5) 20 2004) 19 2005 b o) I L w1 w2 t) nX := by
  have he4 := Cf.e4 h
  have g0 := seqA_gd (T := T) (D := 5) (o := o) (Cf.le h)
  refine Sp_of ok_X12_readCond rfl rfl ?_
  show AW S m_X12_readCond 37 _ _ 0 0 0 [some (.ref 420)] [] (hp I L w1 w2 t)
  refine a_l0 rfl rfl rfl ?_
  refine a_gV rfl lX12_213 mo_X12_readAllOf (h_readAllOf_1 hw hbt hT hd h hB) rfl rfl rfl ⟨12, _, rfl, rfl, rfl⟩ rfl (fun v' h' hv => ?_)
  obtain ⟨rfl, J1, p1, rfl, hz1, hf1⟩ := hv
  rcases hr : (seqP T e (atomR T e 5) 20 2004) b o with ⟨z, b1, o1⟩
  rw [seqP_of hr]
  rw [hr] at hz1 hf1 g0
  cases z with
  | false =>
    refine a_if_ne rfl (fun z => absurd rfl z) (fun _ => ?_)
    refine a_s rfl rfl ?_
    rw [if_neg (by decide)]
    exact a_zret rfl rfl rfl (QF.no (hf1 rfl).1 (hf1 rfl).2)
  | true =>
  refine a_if_ne rfl (fun _ => ?_) (fun z => absurd (show (1 : Int32) = 0 from z) (by decide))
  rw [if_pos rfl]
  obtain ⟨-, -, g3⟩ := g0
  have g3 : b < b1 ∧ o1.length + b ≤ o.length + b1 := g3 rfl
  generalize hR : loopP T e (seqP T e (atomR T e 5) 20 2004) 19 2005 b1 o1 = R
  refine a_inv (n := e - b1) (fun m ls h => ls = [some (.ref 420)] ∧ ∃ J p' b' o', h = hp J L w1 w2 t ∧ Cf T e n0 b' o' I J p' ∧ o'.length < b' ∧ loopP T e (seqP T e (atomR T e 5) 20 2004) 19 2005 b' o' = R ∧ m = e - b') ⟨rfl, J1, p1, _, _, rfl, hz1 rfl, by show o1.length < b1; omega, hR, rfl⟩ ?_
  rintro m _ _ ⟨rfl, J, p', b', o', rfl, C, hB', es, hm⟩ ih
  have eT := Cf.tt C hT
  refine a_l0 rfl rfl rfl ?_
  refine a_ldcs (q := 130 + 19) rfl (hw.ld (i := 19) (by decide)) ?_
  refine a_gV rfl lX12_128 mo_X12_passes (h_passes (b := b') (k := 19) hw (by decide) (Cf.pp C) (by rw [eT]; exact Cf.nb C)) rfl rfl rfl ⟨12, _, rfl, rfl, rfl⟩ rfl (fun v' h' hv => ?_)
  obtain ⟨rfl, J2, rfl, h2⟩ := hv
  rw [eT] at h2 ⊢
  cases cw : isWd T e b' 19 with
  | false =>
    refine a_if_eq rfl (fun _ => ?_) (fun z => absurd rfl z)
    rw [if_neg (by rw [cw]; decide)] at h2
    refine a_s rfl rfl ?_
    rw [← es, loopP_f cw]
    exact a_zret rfl rfl rfl (QF.yes (Cf.rd C h2 (Cf.sk C)))
  | true =>
    refine a_if_eq rfl (fun z => absurd z (by decide)) (fun _ => ?_)
    rw [if_pos cw] at h2
    have n2 := nx_lt (T := T) (isWd_lt cw)
    have C2 : Cf T e n0 (nx T e b') o' I J2 (en T e b') := Cf.rd C h2 rfl
    have n2e := Cf.le C2
    have g4 := seqA_gd (T := T) (D := 5) (o := o') n2e
    refine a_l0 rfl rfl rfl ?_
    refine a_gV rfl lX12_213 mo_X12_readAllOf (h_readAllOf_1 hw hbt (Cf.tt C2 hT) (Cf.d C2 hd) (Cf.rf C2) (by omega)) rfl rfl rfl ⟨12, _, rfl, rfl, rfl⟩ rfl (fun v' h' hv => ?_)
    obtain ⟨rfl, J3, p3, rfl, hz3, hf3⟩ := hv
    have el := fun g => loopP_t (op := 2005) (o := o') (item := seqP T e (atomR T e 5) 20 2004) cw g
    have en' := loopP_n (op := 2005) (o := o') (item := seqP T e (atomR T e 5) 20 2004) cw
    rcases hr2 : (seqP T e (atomR T e 5) 20 2004) (nx T e b') o' with ⟨z2, b2, o2⟩
    rw [hr2] at hz3 hf3 g4 el en'
    cases z2 with
    | false =>
      refine a_if_ne rfl (fun z => absurd rfl z) (fun _ => ?_)
      refine a_s rfl rfl ?_
      rw [← es, en' Bool.false_ne_true]
      exact a_zret rfl rfl rfl (Cf.no C2 (hf3 rfl).1 (hf3 rfl).2)
    | true =>
      refine a_if_ne rfl (fun _ => ?_) (fun z => absurd (show (1 : Int32) = 0 from z) (by decide))
      have C3 : Cf T e n0 b2 o2 I J3 p3 := Cf.cc C2 (hz3 rfl)
      have c3e := Cf.le C3
      obtain ⟨-, -, g5⟩ := g4
      have g5 : nx T e b' < b2 ∧ o2.length + nx T e b' ≤ o'.length + b2 := g5 rfl
      have es2 : loopP T e (seqP T e (atomR T e 5) 20 2004) 19 2005 b2 (2005 :: o2) = R := (el (by show b' < b2; omega) rfl).symm.trans es
      refine a_l0 rfl rfl rfl ?_
      refine a_s rfl rfl ?_
      refine a_s rfl rfl ?_
      refine a_eV0 rfl lX12_180 mo_X12_emits (r_X12_emits (Cf.st C3) (by omega)) rfl rfl rfl ⟨12, _, rfl, rfl, rfl⟩ rfl ?_
      refine a_goto rfl ?_
      exact ih (e - b2) _ _ (by omega) ⟨rfl, _, p3, b2, _, rfl, Cf.em (z := 2005) C3 (by decide) (by decide), by show o2.length + 1 < b2; omega, es2, rfl⟩
theorem h_readAtom_0 (hw : WdS S) (hbt : BtT T) (hT : I 426 = T) (hd : I 420 13 = nI 0) (h : Cf T e n0 b o I I p) (hB : o.length < b) : Sp S m_X12_readAtom 38 0 0 [.ref 420] (hp I L w1 w2 t) (QF T e n0 (atomR T e 6 b o) I L w1 w2 t) nX := by
  have he4 := Cf.e4 h
  have hbe := Cf.le h
  refine Sp_of ok_X12_readAtom rfl rfl ?_
  show AW S m_X12_readAtom 38 _ _ 0 0 0 [some (.ref 420), none] [] (hp I L w1 w2 t)
  refine a_l0 rfl rfl rfl ?_
  refine a_s rfl rfl ?_
  refine a_gV rfl lX12_187 mo_X12_sign (h_sign (b := b) (c := 40) (by rw [hT]; exact hbt) (by decide) (Cf.pp h) (by rw [hT]; exact Cf.nb h)) rfl rfl rfl ⟨12, _, rfl, rfl, rfl⟩ rfl (fun v' h' hv => ?_)
  obtain ⟨rfl, J1, rfl, h1⟩ := hv
  rw [hT] at h1 ⊢
  cases c40 : sg T e b (nI 40) with
  | true =>
    have c40 : sg T e b 40 = true := c40
    refine a_if_eq rfl (fun z => absurd z (by decide)) (fun _ => ?_)
    rw [if_pos (show sg T e b (nI 40) = true from c40)] at h1
    have n1 := nx_lt (T := T) (sg_lt c40)
    have C1 : Cf T e n0 (nx T e b) o I J1 (en T e b) := Cf.rd h h1 rfl
    refine a_l0 rfl rfl rfl ?_
    refine a_geti rfl gfX12_194_12 rfl ?_
    refine a_top (y := nI 0) (Cf.d C1 hd) ?_
    refine a_s rfl rfl ?_
    refine a_ic_ne rfl (fun _ => ?_) (fun c => absurd c (by decide))
    refine a_l0 rfl rfl rfl ?_
    refine a_s rfl rfl ?_
    refine a_geti rfl gfX12_194_12 rfl ?_
    refine a_top (y := nI 0) (Cf.d C1 hd) ?_
    refine a_s rfl rfl ?_
    refine a_s rfl rfl ?_
    refine a_top (y := nI 1) (rfl) ?_
    refine a_puti rfl pfX12_194_12 rfl ?_
    refine a_l0 rfl rfl rfl ?_
    have g4 := cndP_gd (T := T) (fun b o h => atomR_gd (T := T) 5 b o h) (o := o) (Cf.le C1)
    refine a_gV rfl lX12_197 mo_X12_readCond (h_readCond_1 hw hbt ((up2_row (by decide)).trans (Cf.tt C1 hT)) up2_at (Cf.up13 C1) (by omega)) rfl rfl rfl ⟨12, _, rfl, rfl, rfl⟩ rfl (fun v' h' hv => ?_)
    obtain ⟨rfl, J9, p9, rfl, hz9, hf9⟩ := hv
    rw [show seqP T e (seqP T e (atomR T e 5) 20 2004) 19 2005 = cndP T e (atomR T e 5) from rfl] at hz9 hf9 ⊢
    rcases hr9 : cndP T e (atomR T e 5) (nx T e b) o with ⟨z9, b9, o9⟩
    rw [hr9] at hz9 hf9 g4
    rw [atomR_p c40 hr9]
    cases z9 with
    | false =>
      refine a_if_ne rfl (fun z => absurd rfl z) (fun _ => ?_)
      refine a_s rfl rfl ?_
      rw [if_neg (by decide)]
      exact a_zret rfl rfl rfl (QF.no (Fm.tr C1.1 (Fm.tr (Fm.up Fm.rf rfl) (hf9 rfl).1)) (hf9 rfl).2)
    | true =>
      refine a_if_ne rfl (fun _ => ?_) (fun z => absurd (show (1 : Int32) = 0 from z) (by decide))
      rw [if_pos rfl]
      have D9 : Cf T e n0 b9 o9 (up2 J1 420 13 (nI 1)) J9 p9 := hz9 rfl
      refine a_l0 rfl rfl rfl ?_
      refine a_s rfl rfl ?_
      refine a_geti rfl gfX12_194_12 rfl ?_
      refine a_top (y := nI 1) (D9.2.1.trans up2_at) ?_
      refine a_s rfl rfl ?_
      refine a_s rfl rfl ?_
      refine a_top (y := nI 0) (rfl) ?_
      refine a_puti rfl pfX12_194_12 rfl ?_
      have C9 := Cf.deep C1 hd D9
      have eT9 := Cf.tt C9 hT
      refine a_l0 rfl rfl rfl ?_
      refine a_s rfl rfl ?_
      refine a_gV rfl lX12_187 mo_X12_sign (h_sign (b := b9) (c := 41) (by rw [eT9]; exact hbt) (by decide) (Cf.pp C9) (by rw [eT9]; exact Cf.nb C9)) rfl rfl rfl ⟨12, _, rfl, rfl, rfl⟩ rfl (fun v' h' hv => ?_)
      obtain ⟨rfl, J3, rfl, h3⟩ := hv
      rw [eT9] at h3 ⊢
      cases c41 : sg T e b9 (nI 41) with
      | false =>
        have c41 : sg T e b9 41 = false := c41
        rw [if_neg (by rw [show sg T e b9 (nI 41) = false from c41]; decide)] at h3
        rw [if_neg (by rw [c41]; decide)]
        exact a_zret rfl rfl rfl (QF.no (Fm.tr C9.1 (Fm.mo (Rd.fm h3) sR_sY)) (Rd.be h3))
      | true =>
        have c41 : sg T e b9 41 = true := c41
        rw [if_pos (show sg T e b9 (nI 41) = true from c41)] at h3
        rw [if_pos c41]
        exact a_zret rfl rfl rfl (QF.yes (Cf.rd C9 h3 rfl))
  | false =>
  have c40 : sg T e b 40 = false := c40
  refine a_if_eq rfl (fun _ => ?_) (fun z => absurd rfl z)
  rw [if_neg (by rw [show sg T e b (nI 40) = false from c40]; decide)] at h1
  have C0 : Cf T e n0 b o I J1 b := Cf.rd h h1 (Cf.sk h)
  have eT0 := Cf.tt C0 hT
  refine a_l0 rfl rfl rfl ?_
  refine a_ldcs (q := 130 + 21) rfl (hw.ld (i := 21) (by decide)) ?_
  refine a_gV rfl lX12_128 mo_X12_passes (h_passes (b := b) (k := 21) hw (by decide) (Cf.pp C0) (by rw [eT0]; exact Cf.nb C0)) rfl rfl rfl ⟨12, _, rfl, rfl, rfl⟩ rfl (fun v' h' hv => ?_)
  obtain ⟨rfl, J2, rfl, h2⟩ := hv
  rw [eT0] at h2 ⊢
  cases c21 : isWd T e b 21 with
  | true =>
    refine a_if_eq rfl (fun z => absurd z (by decide)) (fun _ => ?_)
    rw [if_pos c21] at h2
    have n1 := nx_lt (T := T) (isWd_lt c21)
    have C2 : Cf T e n0 (nx T e b) o I J2 (en T e b) := Cf.rd C0 h2 rfl
    refine a_l0 rfl rfl rfl ?_
    refine a_geti rfl gfX12_194_12 rfl ?_
    refine a_top (y := nI 0) (Cf.d C2 hd) ?_
    refine a_s rfl rfl ?_
    refine a_ic_ne rfl (fun _ => ?_) (fun c => absurd c (by decide))
    refine a_l0 rfl rfl rfl ?_
    refine a_s rfl rfl ?_
    refine a_geti rfl gfX12_194_12 rfl ?_
    refine a_top (y := nI 0) (Cf.d C2 hd) ?_
    refine a_s rfl rfl ?_
    refine a_s rfl rfl ?_
    refine a_top (y := nI 1) (rfl) ?_
    refine a_puti rfl pfX12_194_12 rfl ?_
    refine a_l0 rfl rfl rfl ?_
    have g4 := atomR_gdo (T := T) (D := 5) (o := o) (Cf.le C2)
    refine a_gV rfl lX12_202 mo_X12_readAtom (h_readAtom_1 hw hbt ((up2_row (by decide)).trans (Cf.tt C2 hT)) up2_at (Cf.up13 C2) (by omega)) rfl rfl rfl ⟨12, _, rfl, rfl, rfl⟩ rfl (fun v' h' hv => ?_)
    obtain ⟨rfl, J9, p9, rfl, hz9, hf9⟩ := hv
    rcases hr9 : atomR T e 5 (nx T e b) o with ⟨z9, b9, o9⟩
    rw [hr9] at hz9 hf9 g4
    rw [atomR_n c40 c21 hr9]
    cases z9 with
    | false =>
      refine a_if_ne rfl (fun z => absurd rfl z) (fun _ => ?_)
      refine a_s rfl rfl ?_
      rw [if_neg (by decide)]
      exact a_zret rfl rfl rfl (QF.no (Fm.tr C2.1 (Fm.tr (Fm.up Fm.rf rfl) (hf9 rfl).1)) (hf9 rfl).2)
    | true =>
      refine a_if_ne rfl (fun _ => ?_) (fun z => absurd (show (1 : Int32) = 0 from z) (by decide))
      rw [if_pos rfl]
      have D9 : Cf T e n0 b9 o9 (up2 J2 420 13 (nI 1)) J9 p9 := hz9 rfl
      obtain ⟨-, -, g5⟩ := g4
      have g5 : nx T e b < b9 ∧ o9.length + nx T e b ≤ o.length + b9 := g5 rfl
      have c9e := Cf.le D9
      refine a_l0 rfl rfl rfl ?_
      refine a_s rfl rfl ?_
      refine a_geti rfl gfX12_194_12 rfl ?_
      refine a_top (y := nI 1) (D9.2.1.trans up2_at) ?_
      refine a_s rfl rfl ?_
      refine a_s rfl rfl ?_
      refine a_top (y := nI 0) (rfl) ?_
      refine a_puti rfl pfX12_194_12 rfl ?_
      have C9 := Cf.deep C2 hd D9
      refine a_l0 rfl rfl rfl ?_
      refine a_s rfl rfl ?_
      refine a_s rfl rfl ?_
      refine a_eV0 rfl lX12_180 mo_X12_emits (r_X12_emits (Cf.st C9) (by omega)) rfl rfl rfl ⟨12, _, rfl, rfl, rfl⟩ rfl ?_
      refine a_s rfl rfl ?_
      exact a_zret rfl rfl rfl (QF.yes (Cf.em (z := 2003) C9 (by decide) (by decide)))
  | false =>
  refine a_if_eq rfl (fun _ => ?_) (fun z => absurd rfl z)
  rw [if_neg (by rw [c21]; decide)] at h2
  have C2 : Cf T e n0 b o I J2 b := Cf.rd C0 h2 (Cf.sk C0)
  rw [atomR_b c40 c21]
  refine a_l0 rfl rfl rfl ?_
  refine a_gV rfl lX12_205 mo_X12_readTag (h_readTag hw (Cf.tt C2 hT) (Cf.rf C2) hB) rfl rfl rfl ⟨12, _, rfl, rfl, rfl⟩ rfl (fun v' h' hv => ?_)
  obtain ⟨z3, x3, J3, p3, rfl, rfl, ht3, hf3⟩ := hv
  cases z3 with
  | true =>
    refine a_if_eq rfl (fun z => absurd z (by decide)) (fun _ => ?_)
    refine a_s rfl rfl ?_
    obtain ⟨hx, D3⟩ := ht3 rfl
    rcases hx with ⟨c22, rfl⟩ | ⟨c22, c23, rfl⟩
    · rw [show baseP T e b o = (true, nx T e b, 1007 :: o) from if_pos c22]
      exact a_zret rfl rfl rfl (QF.yes (Cf.cc C2 D3))
    · rw [show baseP T e b o = (true, nx T e b, 1008 :: o) from (if_neg (by rw [c22]; decide)).trans (if_pos c23)]
      exact a_zret rfl rfl rfl (QF.yes (Cf.cc C2 D3))
  | false =>
  refine a_if_eq rfl (fun _ => ?_) (fun z => absurd rfl z)
  obtain ⟨⟨c22, c23⟩, D3⟩ := hf3 rfl
  have C3 := Cf.cc C2 D3
  have g4 := sumP_gd (T := T) (o := o) hbe
  refine a_l0 rfl rfl rfl ?_
  refine a_gV rfl lX12_208 mo_X12_readSum (h_readSum hw hbt (Cf.tt C3 hT) (Cf.rf C3) hB) rfl rfl rfl ⟨12, _, rfl, rfl, rfl⟩ rfl (fun v' h' hv => ?_)
  obtain ⟨rfl, J4, p4, rfl, hz4, hf4⟩ := hv
  rcases hr4 : sumP T e b o with ⟨z4, b4, o4⟩
  rw [baseP_s c22 c23 hr4]
  rw [hr4] at hz4 hf4 g4
  cases z4 with
  | false =>
    refine a_if_ne rfl (fun z => absurd rfl z) (fun _ => ?_)
    refine a_s rfl rfl ?_
    rw [if_neg (by decide)]
    exact a_zret rfl rfl rfl (Cf.no C3 (hf4 rfl).1 (hf4 rfl).2)
  | true =>
  refine a_if_ne rfl (fun _ => ?_) (fun z => absurd (show (1 : Int32) = 0 from z) (by decide))
  rw [if_pos rfl]
  have C4 : Cf T e n0 b4 o4 I J4 p4 := Cf.cc C3 (hz4 rfl)
  obtain ⟨-, -, g4⟩ := g4
  have g4 : b < b4 ∧ o4.length + b ≤ o.length + b4 := g4 rfl
  have key : ∀ {z5 : Bool} {x : Int32} {p' : Nat} {J : Nat → Nat → Int32}, b4 < nx T e b4 → x = (if z5 = true then 2001 else 2002) → Cf T e n0 (nx T e b4) o4 I J p' → AW S m_X12_readAtom 38 (QF T e n0 (cmpP T e x (nx T e b4) o4) I L w1 w2 t) nX 0 0 152 [some (.ref 420), some (.int (bI z5))] [] (hp J L w1 w2 t) := by
    intro z5 x p' J n4 hx C
    have g6 := sumP_gd (T := T) (o := o4) (Cf.le C)
    refine a_l0 rfl rfl rfl ?_
    refine a_gV rfl lX12_208 mo_X12_readSum (h_readSum hw hbt (Cf.tt C hT) (Cf.rf C) (by omega)) rfl rfl rfl ⟨12, _, rfl, rfl, rfl⟩ rfl (fun v' h' hv => ?_)
    obtain ⟨rfl, J6, p6, rfl, hz6, hf6⟩ := hv
    rcases hr6 : sumP T e (nx T e b4) o4 with ⟨z6, b6, o6⟩
    rw [hr6] at hz6 hf6 g6
    cases z6 with
    | false =>
      refine a_if_ne rfl (fun z => absurd rfl z) (fun _ => ?_)
      refine a_s rfl rfl ?_
      rw [cmpP_f hr6]
      exact a_zret rfl rfl rfl (Cf.no C (hf6 rfl).1 (hf6 rfl).2)
    | true =>
      refine a_if_ne rfl (fun _ => ?_) (fun z => absurd (show (1 : Int32) = 0 from z) (by decide))
      rw [cmpP_t hr6]
      have C6 : Cf T e n0 b6 o6 I J6 p6 := Cf.cc C (hz6 rfl)
      have c6e := Cf.le C6
      obtain ⟨-, -, g6⟩ := g6
      have g6 : nx T e b4 < b6 ∧ o6.length + nx T e b4 ≤ o4.length + b6 := g6 rfl
      refine a_l0 rfl rfl rfl ?_
      refine a_l1 rfl rfl rfl ?_
      cases z5 with
      | false =>
        rw [if_neg (by decide)] at hx
        subst hx
        refine a_if_eq rfl (fun _ => ?_) (fun c => absurd rfl c)
        refine a_s rfl rfl ?_
        refine a_s rfl rfl ?_
        refine a_eV0 rfl lX12_180 mo_X12_emits (r_X12_emits (Cf.st C6) (by omega)) rfl rfl rfl ⟨12, _, rfl, rfl, rfl⟩ rfl ?_
        refine a_s rfl rfl ?_
        exact a_zret rfl rfl rfl (QF.yes (Cf.em (z := 2002) C6 (by decide) (by decide)))
      | true =>
        rw [if_pos rfl] at hx
        subst hx
        refine a_if_eq rfl (fun c => absurd c (by decide)) (fun _ => ?_)
        refine a_s rfl rfl ?_
        refine a_goto rfl ?_
        refine a_s rfl rfl ?_
        refine a_eV0 rfl lX12_180 mo_X12_emits (r_X12_emits (Cf.st C6) (by omega)) rfl rfl rfl ⟨12, _, rfl, rfl, rfl⟩ rfl ?_
        refine a_s rfl rfl ?_
        exact a_zret rfl rfl rfl (QF.yes (Cf.em (z := 2001) C6 (by decide) (by decide)))
  have eT4 := Cf.tt C4 hT
  refine a_l0 rfl rfl rfl ?_
  refine a_s rfl rfl ?_
  refine a_gV rfl lX12_187 mo_X12_sign (h_sign (b := b4) (c := 60) (by rw [eT4]; exact hbt) (by decide) (Cf.pp C4) (by rw [eT4]; exact Cf.nb C4)) rfl rfl rfl ⟨12, _, rfl, rfl, rfl⟩ rfl (fun v' h' hv => ?_)
  obtain ⟨rfl, J5, rfl, h5⟩ := hv
  rw [eT4] at h5 ⊢
  refine a_s1 rfl rfl rfl rfl rfl rfl ?_
  refine a_l1 rfl rfl rfl ?_
  cases c60 : sg T e b4 (nI 60) with
  | true =>
    have c60 : sg T e b4 60 = true := c60
    refine a_if_ne rfl (fun _ => ?_) (fun z => absurd (show (1 : Int32) = 0 from z) (by decide))
    rw [if_pos (show sg T e b4 (nI 60) = true from c60)] at h5
    rw [if_pos c60]
    exact key (z5 := true) (nx_lt (sg_lt c60)) rfl (Cf.rd C4 h5 rfl)
  | false =>
  have c60 : sg T e b4 60 = false := c60
  refine a_if_ne rfl (fun z => absurd rfl z) (fun _ => ?_)
  rw [if_neg (by rw [show sg T e b4 (nI 60) = false from c60]; decide)] at h5
  rw [if_neg (by rw [c60]; decide)]
  have C5 : Cf T e n0 b4 o4 I J5 b4 := Cf.rd C4 h5 (Cf.sk C4)
  have eT5 := Cf.tt C5 hT
  refine a_l0 rfl rfl rfl ?_
  refine a_s rfl rfl ?_
  refine a_gV rfl lX12_187 mo_X12_sign (h_sign (b := b4) (c := 62) (by rw [eT5]; exact hbt) (by decide) (Cf.pp C5) (by rw [eT5]; exact Cf.nb C5)) rfl rfl rfl ⟨12, _, rfl, rfl, rfl⟩ rfl (fun v' h' hv => ?_)
  obtain ⟨rfl, J7, rfl, h7⟩ := hv
  rw [eT5] at h7 ⊢
  cases c62 : sg T e b4 (nI 62) with
  | false =>
    have c62 : sg T e b4 62 = false := c62
    refine a_if_eq rfl (fun _ => ?_) (fun z => absurd rfl z)
    rw [if_neg (by rw [show sg T e b4 (nI 62) = false from c62]; decide)] at h7
    rw [if_neg (by rw [c62]; decide)]
    refine a_s rfl rfl ?_
    exact a_zret rfl rfl rfl (QF.no (Fm.tr C5.1 (Fm.mo (Rd.fm h7) sR_sY)) (Rd.be h7))
  | true =>
    have c62 : sg T e b4 62 = true := c62
    refine a_if_eq rfl (fun z => absurd z (by decide)) (fun _ => ?_)
    rw [if_pos (show sg T e b4 (nI 62) = true from c62)] at h7
    rw [if_pos c62]
    exact key (z5 := false) (nx_lt (sg_lt c62)) rfl (Cf.rd C5 h7 rfl)
theorem h_readAllOf_0 (hw : WdS S) (hbt : BtT T) (hT : I 426 = T) (hd : I 420 13 = nI 0) (h : Cf T e n0 b o I I p) (hB : o.length < b) : Sp S m_X12_readAllOf 39 0 0 [.ref 420] (hp I L w1 w2 t) (QF T e n0 (seqP T e (atomR T e 6) 20 2004 b o) I L w1 w2 t) nX := by
  have he4 := Cf.e4 h
  have g0 := atomR_gdo (T := T) (D := 6) (o := o) (Cf.le h)
  refine Sp_of ok_X12_readAllOf rfl rfl ?_
  show AW S m_X12_readAllOf 39 _ _ 0 0 0 [some (.ref 420)] [] (hp I L w1 w2 t)
  refine a_l0 rfl rfl rfl ?_
  refine a_gV rfl lX12_202 mo_X12_readAtom (h_readAtom_0 hw hbt hT hd h hB) rfl rfl rfl ⟨12, _, rfl, rfl, rfl⟩ rfl (fun v' h' hv => ?_)
  obtain ⟨rfl, J1, p1, rfl, hz1, hf1⟩ := hv
  rcases hr : (atomR T e 6) b o with ⟨z, b1, o1⟩
  rw [seqP_of hr]
  rw [hr] at hz1 hf1 g0
  cases z with
  | false =>
    refine a_if_ne rfl (fun z => absurd rfl z) (fun _ => ?_)
    refine a_s rfl rfl ?_
    rw [if_neg (by decide)]
    exact a_zret rfl rfl rfl (QF.no (hf1 rfl).1 (hf1 rfl).2)
  | true =>
  refine a_if_ne rfl (fun _ => ?_) (fun z => absurd (show (1 : Int32) = 0 from z) (by decide))
  rw [if_pos rfl]
  obtain ⟨-, -, g3⟩ := g0
  have g3 : b < b1 ∧ o1.length + b ≤ o.length + b1 := g3 rfl
  generalize hR : loopP T e (atomR T e 6) 20 2004 b1 o1 = R
  refine a_inv (n := e - b1) (fun m ls h => ls = [some (.ref 420)] ∧ ∃ J p' b' o', h = hp J L w1 w2 t ∧ Cf T e n0 b' o' I J p' ∧ o'.length < b' ∧ loopP T e (atomR T e 6) 20 2004 b' o' = R ∧ m = e - b') ⟨rfl, J1, p1, _, _, rfl, hz1 rfl, by show o1.length < b1; omega, hR, rfl⟩ ?_
  rintro m _ _ ⟨rfl, J, p', b', o', rfl, C, hB', es, hm⟩ ih
  have eT := Cf.tt C hT
  refine a_l0 rfl rfl rfl ?_
  refine a_ldcs (q := 130 + 20) rfl (hw.ld (i := 20) (by decide)) ?_
  refine a_gV rfl lX12_128 mo_X12_passes (h_passes (b := b') (k := 20) hw (by decide) (Cf.pp C) (by rw [eT]; exact Cf.nb C)) rfl rfl rfl ⟨12, _, rfl, rfl, rfl⟩ rfl (fun v' h' hv => ?_)
  obtain ⟨rfl, J2, rfl, h2⟩ := hv
  rw [eT] at h2 ⊢
  cases cw : isWd T e b' 20 with
  | false =>
    refine a_if_eq rfl (fun _ => ?_) (fun z => absurd rfl z)
    rw [if_neg (by rw [cw]; decide)] at h2
    refine a_s rfl rfl ?_
    rw [← es, loopP_f cw]
    exact a_zret rfl rfl rfl (QF.yes (Cf.rd C h2 (Cf.sk C)))
  | true =>
    refine a_if_eq rfl (fun z => absurd z (by decide)) (fun _ => ?_)
    rw [if_pos cw] at h2
    have n2 := nx_lt (T := T) (isWd_lt cw)
    have C2 : Cf T e n0 (nx T e b') o' I J2 (en T e b') := Cf.rd C h2 rfl
    have n2e := Cf.le C2
    have g4 := atomR_gdo (T := T) (D := 6) (o := o') n2e
    refine a_l0 rfl rfl rfl ?_
    refine a_gV rfl lX12_202 mo_X12_readAtom (h_readAtom_0 hw hbt (Cf.tt C2 hT) (Cf.d C2 hd) (Cf.rf C2) (by omega)) rfl rfl rfl ⟨12, _, rfl, rfl, rfl⟩ rfl (fun v' h' hv => ?_)
    obtain ⟨rfl, J3, p3, rfl, hz3, hf3⟩ := hv
    have el := fun g => loopP_t (op := 2004) (o := o') (item := atomR T e 6) cw g
    have en' := loopP_n (op := 2004) (o := o') (item := atomR T e 6) cw
    rcases hr2 : (atomR T e 6) (nx T e b') o' with ⟨z2, b2, o2⟩
    rw [hr2] at hz3 hf3 g4 el en'
    cases z2 with
    | false =>
      refine a_if_ne rfl (fun z => absurd rfl z) (fun _ => ?_)
      refine a_s rfl rfl ?_
      rw [← es, en' Bool.false_ne_true]
      exact a_zret rfl rfl rfl (Cf.no C2 (hf3 rfl).1 (hf3 rfl).2)
    | true =>
      refine a_if_ne rfl (fun _ => ?_) (fun z => absurd (show (1 : Int32) = 0 from z) (by decide))
      have C3 : Cf T e n0 b2 o2 I J3 p3 := Cf.cc C2 (hz3 rfl)
      have c3e := Cf.le C3
      obtain ⟨-, -, g5⟩ := g4
      have g5 : nx T e b' < b2 ∧ o2.length + nx T e b' ≤ o'.length + b2 := g5 rfl
      have es2 : loopP T e (atomR T e 6) 20 2004 b2 (2004 :: o2) = R := (el (by show b' < b2; omega) rfl).symm.trans es
      refine a_l0 rfl rfl rfl ?_
      refine a_s rfl rfl ?_
      refine a_s rfl rfl ?_
      refine a_eV0 rfl lX12_180 mo_X12_emits (r_X12_emits (Cf.st C3) (by omega)) rfl rfl rfl ⟨12, _, rfl, rfl, rfl⟩ rfl ?_
      refine a_goto rfl ?_
      exact ih (e - b2) _ _ (by omega) ⟨rfl, _, p3, b2, _, rfl, Cf.em (z := 2004) C3 (by decide) (by decide), by show o2.length + 1 < b2; omega, es2, rfl⟩
theorem h_readCond_0 (hw : WdS S) (hbt : BtT T) (hT : I 426 = T) (hd : I 420 13 = nI 0) (h : Cf T e n0 b o I I p) (hB : o.length < b) : Sp S m_X12_readCond 40 0 0 [.ref 420] (hp I L w1 w2 t) (QF T e n0 (seqP T e (seqP T e (atomR T e 6) 20 2004) 19 2005 b o) I L w1 w2 t) nX := by
  have he4 := Cf.e4 h
  have g0 := seqA_gd (T := T) (D := 6) (o := o) (Cf.le h)
  refine Sp_of ok_X12_readCond rfl rfl ?_
  show AW S m_X12_readCond 40 _ _ 0 0 0 [some (.ref 420)] [] (hp I L w1 w2 t)
  refine a_l0 rfl rfl rfl ?_
  refine a_gV rfl lX12_213 mo_X12_readAllOf (h_readAllOf_0 hw hbt hT hd h hB) rfl rfl rfl ⟨12, _, rfl, rfl, rfl⟩ rfl (fun v' h' hv => ?_)
  obtain ⟨rfl, J1, p1, rfl, hz1, hf1⟩ := hv
  rcases hr : (seqP T e (atomR T e 6) 20 2004) b o with ⟨z, b1, o1⟩
  rw [seqP_of hr]
  rw [hr] at hz1 hf1 g0
  cases z with
  | false =>
    refine a_if_ne rfl (fun z => absurd rfl z) (fun _ => ?_)
    refine a_s rfl rfl ?_
    rw [if_neg (by decide)]
    exact a_zret rfl rfl rfl (QF.no (hf1 rfl).1 (hf1 rfl).2)
  | true =>
  refine a_if_ne rfl (fun _ => ?_) (fun z => absurd (show (1 : Int32) = 0 from z) (by decide))
  rw [if_pos rfl]
  obtain ⟨-, -, g3⟩ := g0
  have g3 : b < b1 ∧ o1.length + b ≤ o.length + b1 := g3 rfl
  generalize hR : loopP T e (seqP T e (atomR T e 6) 20 2004) 19 2005 b1 o1 = R
  refine a_inv (n := e - b1) (fun m ls h => ls = [some (.ref 420)] ∧ ∃ J p' b' o', h = hp J L w1 w2 t ∧ Cf T e n0 b' o' I J p' ∧ o'.length < b' ∧ loopP T e (seqP T e (atomR T e 6) 20 2004) 19 2005 b' o' = R ∧ m = e - b') ⟨rfl, J1, p1, _, _, rfl, hz1 rfl, by show o1.length < b1; omega, hR, rfl⟩ ?_
  rintro m _ _ ⟨rfl, J, p', b', o', rfl, C, hB', es, hm⟩ ih
  have eT := Cf.tt C hT
  refine a_l0 rfl rfl rfl ?_
  refine a_ldcs (q := 130 + 19) rfl (hw.ld (i := 19) (by decide)) ?_
  refine a_gV rfl lX12_128 mo_X12_passes (h_passes (b := b') (k := 19) hw (by decide) (Cf.pp C) (by rw [eT]; exact Cf.nb C)) rfl rfl rfl ⟨12, _, rfl, rfl, rfl⟩ rfl (fun v' h' hv => ?_)
  obtain ⟨rfl, J2, rfl, h2⟩ := hv
  rw [eT] at h2 ⊢
  cases cw : isWd T e b' 19 with
  | false =>
    refine a_if_eq rfl (fun _ => ?_) (fun z => absurd rfl z)
    rw [if_neg (by rw [cw]; decide)] at h2
    refine a_s rfl rfl ?_
    rw [← es, loopP_f cw]
    exact a_zret rfl rfl rfl (QF.yes (Cf.rd C h2 (Cf.sk C)))
  | true =>
    refine a_if_eq rfl (fun z => absurd z (by decide)) (fun _ => ?_)
    rw [if_pos cw] at h2
    have n2 := nx_lt (T := T) (isWd_lt cw)
    have C2 : Cf T e n0 (nx T e b') o' I J2 (en T e b') := Cf.rd C h2 rfl
    have n2e := Cf.le C2
    have g4 := seqA_gd (T := T) (D := 6) (o := o') n2e
    refine a_l0 rfl rfl rfl ?_
    refine a_gV rfl lX12_213 mo_X12_readAllOf (h_readAllOf_0 hw hbt (Cf.tt C2 hT) (Cf.d C2 hd) (Cf.rf C2) (by omega)) rfl rfl rfl ⟨12, _, rfl, rfl, rfl⟩ rfl (fun v' h' hv => ?_)
    obtain ⟨rfl, J3, p3, rfl, hz3, hf3⟩ := hv
    have el := fun g => loopP_t (op := 2005) (o := o') (item := seqP T e (atomR T e 6) 20 2004) cw g
    have en' := loopP_n (op := 2005) (o := o') (item := seqP T e (atomR T e 6) 20 2004) cw
    rcases hr2 : (seqP T e (atomR T e 6) 20 2004) (nx T e b') o' with ⟨z2, b2, o2⟩
    rw [hr2] at hz3 hf3 g4 el en'
    cases z2 with
    | false =>
      refine a_if_ne rfl (fun z => absurd rfl z) (fun _ => ?_)
      refine a_s rfl rfl ?_
      rw [← es, en' Bool.false_ne_true]
      exact a_zret rfl rfl rfl (Cf.no C2 (hf3 rfl).1 (hf3 rfl).2)
    | true =>
      refine a_if_ne rfl (fun _ => ?_) (fun z => absurd (show (1 : Int32) = 0 from z) (by decide))
      have C3 : Cf T e n0 b2 o2 I J3 p3 := Cf.cc C2 (hz3 rfl)
      have c3e := Cf.le C3
      obtain ⟨-, -, g5⟩ := g4
      have g5 : nx T e b' < b2 ∧ o2.length + nx T e b' ≤ o'.length + b2 := g5 rfl
      have es2 : loopP T e (seqP T e (atomR T e 6) 20 2004) 19 2005 b2 (2005 :: o2) = R := (el (by show b' < b2; omega) rfl).symm.trans es
      refine a_l0 rfl rfl rfl ?_
      refine a_s rfl rfl ?_
      refine a_s rfl rfl ?_
      refine a_eV0 rfl lX12_180 mo_X12_emits (r_X12_emits (Cf.st C3) (by omega)) rfl rfl rfl ⟨12, _, rfl, rfl, rfl⟩ rfl ?_
      refine a_goto rfl ?_
      exact ih (e - b2) _ _ (by omega) ⟨rfl, _, p3, b2, _, rfl, Cf.em (z := 2005) C3 (by decide) (by decide), by show o2.length + 1 < b2; omega, es2, rfl⟩
end T79h
end
section
/-! ===== the reference: a law's line, all lines, a law, as functions ===== -/
section T79i
variable {S : aS} {I : Nat → Nat → Int32} {L : Nat → Nat → Int64} {w1 w2 t : Nat} {e p b n0 nd np : Nat} {T : Nat → Int32} {o : List Int32} {ls : List LnT}
set_option maxRecDepth 100000
/-- lines of the draft, the latest first -/
def LnW (W : Nat → Int32) : List LnT → Prop
  | [] => True
  | x :: r => (W (1185 + 4 * r.length) = x.1 ∧ W (1185 + 4 * r.length + 1) = x.2.1 ∧ W (1185 + 4 * r.length + 2) = nI x.2.2.1 ∧ W (1185 + 4 * r.length + 3) = nI x.2.2.2) ∧ LnW W r
theorem LnW.eq {W W' : Nat → Int32} : ∀ {r : List LnT}, LnW W r → (∀ k, 1185 ≤ k → k < 1185 + 4 * r.length → W' k = W k) → LnW W' r := by
  intro r
  induction r with
  | nil => exact fun _ _ => trivial
  | cons x r ih =>
    intro h f
    have f : ∀ k, 1185 ≤ k → k < 1185 + 4 * (r.length + 1) → W' k = W k := f
    obtain ⟨⟨h1, h2, h3, h4⟩, h5⟩ := h
    exact ⟨⟨(f _ (by omega) (by omega)).trans h1, (f _ (by omega) (by omega)).trans h2, (f _ (by omega) (by omega)).trans h3, (f _ (by omega) (by omega)).trans h4⟩, ih h5 fun k g1 g2 => f k g1 (by omega)⟩
theorem LnW.at {W : Nat → Int32} : ∀ {r : List LnT}, LnW W r → ∀ i, i < r.length → W (1185 + 4 * i) = (lnAt r i).1 ∧ W (1185 + 4 * i + 1) = (lnAt r i).2.1 ∧ W (1185 + 4 * i + 2) = nI (lnAt r i).2.2.1 ∧ W (1185 + 4 * i + 3) = nI (lnAt r i).2.2.2 := by
  intro r
  induction r with
  | nil => exact fun _ i hi => absurd hi (Nat.not_lt_zero _)
  | cons x r ih =>
    intro h i hi
    have hi : i < r.length + 1 := hi
    by_cases c : i = r.length
    · rw [show lnAt (x :: r) i = x from if_pos c, c]
      exact h.1
    · rw [show lnAt (x :: r) i = lnAt r i from if_neg c]
      exact ih h.2 i (by omega)
theorem RowS.at {W : Nat → Int32} : ∀ {r : List Int32}, RowS W r → ∀ i, i < r.length → W (1233 + 2 * i) = stF (cdL r i) ∧ W (1233 + 2 * i + 1) = snF (cdL r i) := by
  intro r
  induction r with
  | nil => exact fun _ i hi => absurd hi (Nat.not_lt_zero _)
  | cons x r ih =>
    intro h i hi
    have hi : i < r.length + 1 := hi
    by_cases c : i = r.length
    · rw [show cdL (x :: r) i = x from if_pos c, c]
      exact h.1
    · rw [show cdL (x :: r) i = cdL r i from if_neg c]
      exact ih h.2 i (by omega)
theorem LD_of {W : Nat → Int32} (h1 : RowS W o) (h2 : LnW W ls) (h3 : LsOk o ls) : LD ls.length o.length W := by
  obtain ⟨g1, g2⟩ := h3
  have hc : ∀ i, i < o.length → ∃ k m, k ≤ 15 ∧ m < 1000 ∧ W (1233 + 2 * i) = nI k ∧ W (1233 + 2 * i + 1) = nI m ∧ cdN o i = trN k m := fun i hi => by
    obtain ⟨k, m, a1, a2, a3, a4, a5, -⟩ := okC_st (cdL_ok g1 i hi)
    obtain ⟨r1, r2⟩ := RowS.at h1 i hi
    exact ⟨k, m, a1, a2, r1.trans a3, r2.trans a4, a5⟩
  refine ⟨fun i hi => ?_, fun i hi => ?_⟩
  · obtain ⟨k, m, a1, a2, a3, a4, -⟩ := hc i hi
    exact ⟨k, m, a1, a2, a3, a4⟩
  · obtain ⟨-, -, l3, l4⟩ := LnW.at h2 i hi
    obtain ⟨b1, b2, b3⟩ := g2 i hi
    refine ⟨_, _, l3, l4, b1, b2, LineOk.congr b3 fun j hj => ?_⟩
    obtain ⟨k, m, a1, a2, a3, a4, a5⟩ := hc ((lnAt ls i).2.2.1 + j) (by omega)
    rw [a5]
    unfold cdD
    rw [a3, a4, nI_clamp (by omega), nI_clamp (by omega)]
/-- a draft's state between two lines: so many lines, so many codes -/
def Dl (T : Nat → Int32) (e b : Nat) (o : List Int32) (ls : List LnT) (J : Nat → Nat → Int32) (p : Nat) : Prop := Pp e p J ∧ rn T e 4 p = b ∧ J 420 16 = nI o.length ∧ RowS (J 421) o ∧ LnW (J 421) ls ∧ o.length ≤ b
theorem h_readLawLine (hw : WdS S) (hbt : BtT T) (hT : I 426 = T) (hnl : ls.length < 12) (h12 : I 420 12 = nI b) (hq : Pp e p I) (hp1 : p = rn T e 1 b) (hsk : rn T e 4 b = b) (hst : I 420 16 = nI o.length) (hrs : RowS (I 421) o) (hrl : LnW (I 421) ls) (hB : o.length ≤ b) (hbe : b ≤ e) : Sp S m_X12_readLawLine 41 0 0 [.ref 420, .int (nI ls.length)] (hp I L w1 w2 t) (fun v h' => v = some (.int (bI (lnP T e b o).1)) ∧ ∃ J p', h' = hp J L w1 w2 t ∧ Fm (sZ ls.length o.length) I J ∧ ((lnP T e b o).1 = false → J 420 12 = nI (lnP T e b o).2.1) ∧ ((lnP T e b o).1 = true → Dl T e (lnP T e b o).2.1 (lnP T e b o).2.2 (lnV T e b o (lnP T e b o).2.2 :: ls) J p')) nX := by
  have he4 := Pp.e4 hq
  have gd := lnP_gd (T := T) (o := o) hbe
  have hi : ∀ k, k < 27 → isW T b (p - b) k = isWd T e b k := fun k hk => by
    rw [hp1]
    exact isW_wd hk
  have hbp : b ≤ p := by
    rw [hp1]
    exact rn_ge
  refine Sp_of ok_X12_readLawLine rfl rfl ?_
  show AW S m_X12_readLawLine 41 _ _ 0 0 0 [some (.ref 420), some (.int (nI ls.length)), none] [] (hp I L w1 w2 t)
  refine a_s rfl rfl ?_
  refine a_s rfl rfl ?_
  refine a_l1 rfl rfl rfl ?_
  refine a_s rfl rfl ?_
  refine a_top (y := nI (4 * ls.length)) (nI_mul 4 ls.length) ?_
  refine a_s rfl rfl ?_
  refine a_top (y := nI (1185 + 4 * ls.length)) (nI_addl 1185 (4 * ls.length)) ?_
  refine a_s2 rfl rfl rfl rfl rfl rfl ?_
  refine a_l0 rfl rfl rfl ?_
  refine a_getq rfl gfX12_13_12 rfl (rfl) ?_
  refine a_l2 rfl rfl rfl ?_
  have key : AW S m_X12_readLawLine 41 (fun v h' => v = some (.int (bI (lnP T e b o).1)) ∧ ∃ J p', h' = hp J L w1 w2 t ∧ Fm (sZ ls.length o.length) I J ∧ ((lnP T e b o).1 = false → J 420 12 = nI (lnP T e b o).2.1) ∧ ((lnP T e b o).1 = true → Dl T e (lnP T e b o).2.1 (lnP T e b o).2.2 (lnV T e b o (lnP T e b o).2.2 :: ls) J p')) nX 0 0 53 [some (.ref 420), some (.int (nI ls.length)), some (.int (nI (1185 + 4 * ls.length)))] [.int (kndP T e b), .int (nI (1185 + 4 * ls.length)), .ref 421] (hp I L w1 w2 t) := by
    refine a_iastv (k := 1185 + 4 * ls.length) rfl (n := 2033) rfl (inI_nI (by omega) (by omega)) (nI_clamp (by omega)) ?_
    have f1 : Fm (sZ ls.length o.length) I (up2 I 421 (1185 + 4 * ls.length) (kndP T e b)) := Fm.up Fm.rf (sZ_in (by omega) (by omega))
    refine a_l0 rfl rfl rfl ?_
    refine a_getq rfl gfX12_13_12 rfl (rfl) ?_
    refine a_l2 rfl rfl rfl ?_
    refine a_ialdv (v := kndP T e b) rfl (n := 2033) rfl (inI_nI (by omega) (by omega)) (by rw [nI_clamp (by omega)]; exact up2_at) ?_
    by_cases c1 : kndP T e b = -1
    · rw [show lnP T e b o = (false, b, []) from if_pos c1, c1]
      refine a_if_ge rfl (fun c => absurd c (by decide)) (fun _ => ?_)
      refine a_s rfl rfl ?_
      rw [c1] at f1
      exact a_zret rfl rfl rfl ⟨rfl, _, 0, rfl, f1, fun _ => (congrFun (up2_row (by decide)) 12).trans h12, fun z => by cases z⟩
    have k1 : kd T e b = 1 ∧ ¬ kndP T e b < 0 := by
      unfold kndP at c1 ⊢
      by_cases d1 : isWd T e b 15 = true
      · rw [if_pos d1]
        exact ⟨(of_decide_eq_true d1).1, by decide⟩
      · rw [if_neg d1] at c1 ⊢
        by_cases d2 : isWd T e b 16 = true
        · rw [if_pos d2]
          exact ⟨(of_decide_eq_true d2).1, by decide⟩
        · rw [if_neg d2] at c1 ⊢
          by_cases d3 : isWd T e b 17 = true
          · rw [if_pos d3]
            exact ⟨(of_decide_eq_true d3).1, by decide⟩
          · rw [if_neg d3] at c1
            exact absurd rfl c1
    have n1 := nx_lt (T := T) (knd_lt c1)
    have n1e := nx_le (T := T) hbe
    have hpn : rn T e 4 p = nx T e b := by
      rw [hp1, ← en_1 k1.1]
      rfl
    refine a_if_ge rfl (fun _ => ?_) (fun c => absurd (Int32.not_lt.mp k1.2) c)
    refine a_l0 rfl rfl rfl ?_
    refine a_getq rfl gfX12_13_12 rfl (rfl) ?_
    refine a_l2 rfl rfl rfl ?_
    refine a_s rfl rfl ?_
    refine a_s rfl rfl ?_
    refine a_top (y := nI (1185 + 4 * ls.length + 1)) ((nI_succ _).symm) ?_
    refine a_l0 rfl rfl rfl ?_
    refine a_s rfl rfl ?_
    refine a_s rfl rfl ?_
    refine a_gV rfl lX12_113 mo_X12_number (h_number (b := nx T e b) (x := 0) (y := 60) (Pp.wd hq) (by rw [up2_row (by decide), hT]; exact hpn) (by decide)) rfl rfl rfl ⟨12, _, rfl, rfl, rfl⟩ rfl (fun v' h' hv => ?_)
    obtain ⟨rfl, J2, rfl, h2⟩ := hv
    rw [show up2 I 421 (1185 + 4 * ls.length) (kndP T e b) 426 = T from (up2_row (by decide)).trans hT] at h2 ⊢
    refine a_iastv (k := 1185 + 4 * ls.length + 1) rfl (n := 2033) rfl (inI_nI (by omega) (by omega)) (nI_clamp (by omega)) ?_
    have f3 : Fm (sZ ls.length o.length) I (up2 J2 421 (1185 + 4 * ls.length + 1) (nm T e (nx T e b) 0 60)) := Fm.up (Fm.tr f1 (Fm.mo (Rd.fm h2) sR_sZ)) (sZ_in (by omega) (by omega))
    refine a_l0 rfl rfl rfl ?_
    refine a_getq rfl gfX12_13_12 rfl (rfl) ?_
    refine a_l2 rfl rfl rfl ?_
    refine a_s rfl rfl ?_
    refine a_s rfl rfl ?_
    refine a_top (y := nI (1185 + 4 * ls.length + 1)) ((nI_succ _).symm) ?_
    refine a_ialdv (v := nm T e (nx T e b) 0 60) rfl (n := 2033) rfl (inI_nI (by omega) (by omega)) (by rw [nI_clamp (by omega)]; exact up2_at) ?_
    by_cases c2 : nm T e (nx T e b) 0 60 = -1
    · rw [show lnP T e b o = (false, nx T e b, []) from (if_neg c1).trans (if_pos c2), c2]
      refine a_if_ge rfl (fun c => absurd c (by decide)) (fun _ => ?_)
      refine a_s rfl rfl ?_
      rw [c2] at f3
      exact a_zret rfl rfl rfl ⟨rfl, _, 0, rfl, f3, fun _ => (congrFun (up2_row (by decide)) 12).trans (Rd.be h2), fun z => by cases z⟩
    have k2 : kd T e (nx T e b) = 2 ∧ ¬ nm T e (nx T e b) 0 60 < 0 := by
      unfold nm at c2 ⊢
      by_cases d1 : kd T e (nx T e b) = 2 ∧ 0 ≤ vl T e (nx T e b) ∧ vl T e (nx T e b) ≤ 60
      · rw [if_pos d1]
        exact ⟨d1.1, Int32.not_lt.mpr d1.2.1⟩
      · rw [if_neg d1] at c2
        exact absurd rfl c2
    refine a_if_ge rfl (fun _ => ?_) (fun c => absurd (Int32.not_lt.mp k2.2) c)
    have n2 := nx_lt (T := T) (nm_lt c2)
    have n2e := nx_le (T := T) n1e
    have hpn2 : rn T e 4 (rn T e 2 (nx T e b)) = nx T e (nx T e b) := by
      rw [← en_2 k2.1]
      rfl
    have s3 : up2 J2 421 (1185 + 4 * ls.length + 1) (nm T e (nx T e b) 0 60) 420 16 = nI o.length := ((congrFun (up2_row (by decide)) 16).trans (((Rd.fm h2 420 16 rfl).trans (congrFun (up2_row (by decide)) 16)).trans hst))
    refine a_l0 rfl rfl rfl ?_
    refine a_getq rfl gfX12_13_12 rfl (rfl) ?_
    refine a_l2 rfl rfl rfl ?_
    refine a_s rfl rfl ?_
    refine a_s rfl rfl ?_
    refine a_top (y := nI (1185 + 4 * ls.length + 2)) (nI_addl _ 2) ?_
    refine a_l0 rfl rfl rfl ?_
    refine a_geti rfl gfX12_168_12 rfl ?_
    refine a_top (y := nI o.length) (s3) ?_
    refine a_iastv (k := 1185 + 4 * ls.length + 2) rfl (n := 2033) rfl (inI_nI (by omega) (by omega)) (nI_clamp (by omega)) ?_
    refine a_l0 rfl rfl rfl ?_
    refine a_s rfl rfl ?_
    refine a_puti rfl pfX12_194_12 rfl ?_
    have f5 : Fm (sZ ls.length o.length) I (up2 (up2 (up2 J2 421 (1185 + 4 * ls.length + 1) (nm T e (nx T e b) 0 60)) 421 (1185 + 4 * ls.length + 2) (nI o.length)) 420 13 0) := Fm.up (Fm.up f3 (sZ_in (by omega) (by omega))) rfl
    have w2 : J2 421 (1185 + 4 * ls.length) = kndP T e b := (Rd.fm h2 421 _ rfl).trans up2_at
    refine a_ren (P := fun J => Fm (sZ ls.length o.length) I J ∧ Pp e (rn T e 2 (nx T e b)) J ∧ J 420 16 = nI o.length ∧ J 420 13 = nI 0 ∧ J 421 (1185 + 4 * ls.length) = kndP T e b ∧ J 421 (1185 + 4 * ls.length + 1) = nm T e (nx T e b) 0 60 ∧ J 421 (1185 + 4 * ls.length + 2) = nI o.length) ⟨f5, Pp.dp (Pp.wd (Pp.wd (Rd.pp h2))), ?_, up2_at, ?_, ?_, ?_⟩ (fun J5 hJ5 => ?_)
    · rw [up2_ne (Or.inr (by decide)), up2_row (by decide)]
      exact s3
    · rw [up2_row (by decide), u2_lo (by omega), u2_lo (by omega)]
      exact w2
    · rw [up2_row (by decide), u2_lo (by omega)]
      exact up2_at
    · rw [up2_row (by decide)]
      exact up2_at
    clear f5 f3 f1 s3 w2
    obtain ⟨f5, q5, s5, d5, l50, l51, l52⟩ := hJ5
    have rs5 : RowS (J5 421) o := RowS.eq hrs fun k g1 g2 => f5 421 k (sZ_mid g1 g2)
    have rl5 : LnW (J5 421) ls := LnW.eq hrl fun k g1 g2 => f5 421 k (sZ_lo (by omega) (by omega))
    have T5 : J5 426 = T := (funext fun k => f5 426 k rfl).trans hT
    have C5 : Cf T e o.length (nx T e (nx T e b)) o J5 J5 (rn T e 2 (nx T e b)) := ⟨Fm.rf, rfl, q5, hpn2, s5, rs5, Nat.le_refl _⟩
    -- the line ends here
    have key2 : ∀ {b1 p' : Nat} {o1 : List Int32} {J : Nat → Nat → Int32}, lnP T e b o = (true, b1, o1) → Cf T e o.length b1 o1 J5 J p' → AW S m_X12_readLawLine 41 (fun v h' => v = some (.int (bI (lnP T e b o).1)) ∧ ∃ J p', h' = hp J L w1 w2 t ∧ Fm (sZ ls.length o.length) I J ∧ ((lnP T e b o).1 = false → J 420 12 = nI (lnP T e b o).2.1) ∧ ((lnP T e b o).1 = true → Dl T e (lnP T e b o).2.1 (lnP T e b o).2.2 (lnV T e b o (lnP T e b o).2.2 :: ls) J p')) nX 0 0 128 [some (.ref 420), some (.int (nI ls.length)), some (.int (nI (1185 + 4 * ls.length)))] [] (hp J L w1 w2 t) := by
      intro b1 p' o1 J el C
      rw [el] at gd ⊢
      obtain ⟨-, g2, g3⟩ := gd
      have g3 : b < b1 ∧ o1.length + b ≤ o.length + b1 := g3 rfl
      refine a_l0 rfl rfl rfl ?_
      refine a_getq rfl gfX12_13_12 rfl (rfl) ?_
      refine a_l2 rfl rfl rfl ?_
      refine a_s rfl rfl ?_
      refine a_s rfl rfl ?_
      refine a_top (y := nI (1185 + 4 * ls.length + 3)) (nI_addl _ 3) ?_
      refine a_l0 rfl rfl rfl ?_
      refine a_geti rfl gfX12_168_12 rfl ?_
      refine a_top (y := nI o1.length) (Cf.st C) ?_
      refine a_iastv (k := 1185 + 4 * ls.length + 3) rfl (n := 2033) rfl (inI_nI (by omega) (by omega)) (nI_clamp (by omega)) ?_
      refine a_s rfl rfl ?_
      have lo : ∀ k, k < 1233 → J 421 k = J5 421 k := fun k hk => C.1 421 k (sY_lo (by omega))
      refine a_zret rfl rfl rfl ⟨rfl, _, p', rfl, Fm.up (Fm.tr f5 (Fm.mo C.1 sY_sZ)) (sZ_in (by omega) (by omega)), (fun z => by cases z), fun _ => ⟨Pp.wd (Cf.pp C), Cf.nb C, ?_, ?_, ⟨⟨?_, ?_, ?_, up2_at⟩, ?_⟩, by show o1.length ≤ b1; omega⟩⟩
      · rw [up2_row (by decide)]
        exact Cf.st C
      · exact RowS.eq C.2.2.2.2.2.1 fun k g1 _ => u2_lo (by omega)
      · rw [u2_lo (by omega), lo _ (by omega)]
        exact l50
      · rw [u2_lo (by omega), lo _ (by omega)]
        exact l51
      · rw [u2_lo (by omega), lo _ (by omega)]
        exact l52
      · refine LnW.eq rl5 fun k g1 g2 => ?_
        rw [u2_lo (by omega), lo _ (by omega)]
    refine a_l0 rfl rfl rfl ?_
    refine a_ldcs (q := 130 + 18) rfl (hw.ld (i := 18) (by decide)) ?_
    refine a_gV rfl lX12_128 mo_X12_passes (h_passes (b := nx T e (nx T e b)) (k := 18) hw (by decide) q5 (by rw [T5]; exact hpn2)) rfl rfl rfl ⟨12, _, rfl, rfl, rfl⟩ rfl (fun v' h' hv => ?_)
    obtain ⟨rfl, J6, rfl, h6⟩ := hv
    rw [T5] at h6 ⊢
    cases c3 : isWd T e (nx T e (nx T e b)) 18 with
    | false =>
      refine a_if_eq rfl (fun _ => ?_) (fun z => absurd rfl z)
      rw [if_neg (by rw [c3]; decide)] at h6
      exact key2 ((if_neg c1).trans ((if_neg c2).trans (if_neg (by rw [c3]; decide)))) (Cf.rd C5 h6 (Cf.sk C5))
    | true =>
      refine a_if_eq rfl (fun z => absurd z (by decide)) (fun _ => ?_)
      rw [if_pos c3] at h6
      have n3 := nx_lt (T := T) (isWd_lt c3)
      have C6 : Cf T e o.length (nx T e (nx T e (nx T e b))) o J5 J6 (en T e (nx T e (nx T e b))) := Cf.rd C5 h6 rfl
      have el : lnP T e b o = condR T e 6 (nx T e (nx T e (nx T e b))) o := (if_neg c1).trans ((if_neg c2).trans (if_pos c3))
      refine a_l0 rfl rfl rfl ?_
      refine a_gV rfl lX12_197 mo_X12_readCond (h_readCond_0 hw hbt (Cf.tt C6 T5) (Cf.d C6 d5) (Cf.rf C6) (by omega)) rfl rfl rfl ⟨12, _, rfl, rfl, rfl⟩ rfl (fun v' h' hv => ?_)
      obtain ⟨rfl, J7, p7, rfl, hz7, hf7⟩ := hv
      rw [show seqP T e (seqP T e (atomR T e 6) 20 2004) 19 2005 (nx T e (nx T e (nx T e b))) o = lnP T e b o from el.symm] at hz7 hf7 ⊢
      rcases er : lnP T e b o with ⟨z, b1, o1⟩
      rw [er] at hz7 hf7
      cases z with
      | false =>
        refine a_if_ne rfl (fun z => absurd rfl z) (fun _ => ?_)
        refine a_s rfl rfl ?_
        exact a_zret rfl rfl rfl ⟨rfl, J7, 0, rfl, Fm.tr f5 (Fm.mo (Fm.tr C6.1 (hf7 rfl).1) sY_sZ), fun _ => (hf7 rfl).2, fun z => by cases z⟩
      | true =>
        refine a_if_ne rfl (fun _ => ?_) (fun z => absurd (show (1 : Int32) = 0 from z) (by decide))
        rw [er] at key2
        exact key2 rfl (Cf.cc C6 (hz7 rfl))
  refine a_l0 rfl rfl rfl ?_
  refine a_ldcs (q := 130 + 15) rfl (hw.ld (i := 15) (by decide)) ?_
  refine a_eV1 rfl lX12_109 mo_X12_isWord (h_isWord (k := 15) hw (by decide) h12 hbp hq) rfl rfl rfl ⟨12, _, rfl, rfl, rfl⟩ rfl ?_
  refine a_top (y := bI (isWd T e b 15)) (by rw [hT]; exact congrArg bI (hi 15 (by decide))) ?_
  cases c15 : isWd T e b 15 with
  | true =>
    refine a_if_eq rfl (fun z => absurd z (by decide)) (fun _ => ?_)
    rw [show kndP T e b = 0 from if_pos c15] at key
    refine a_s rfl rfl ?_
    refine a_goto rfl ?_
    exact key
  | false =>
  refine a_if_eq rfl (fun _ => ?_) (fun z => absurd rfl z)
  refine a_l0 rfl rfl rfl ?_
  refine a_ldcs (q := 130 + 16) rfl (hw.ld (i := 16) (by decide)) ?_
  refine a_eV1 rfl lX12_109 mo_X12_isWord (h_isWord (k := 16) hw (by decide) h12 hbp hq) rfl rfl rfl ⟨12, _, rfl, rfl, rfl⟩ rfl ?_
  refine a_top (y := bI (isWd T e b 16)) (by rw [hT]; exact congrArg bI (hi 16 (by decide))) ?_
  cases c16 : isWd T e b 16 with
  | true =>
    refine a_if_eq rfl (fun z => absurd z (by decide)) (fun _ => ?_)
    rw [show kndP T e b = 1 from (if_neg (by rw [c15]; decide)).trans (if_pos c16)] at key
    refine a_s rfl rfl ?_
    refine a_goto rfl ?_
    exact key
  | false =>
  refine a_if_eq rfl (fun _ => ?_) (fun z => absurd rfl z)
  refine a_l0 rfl rfl rfl ?_
  refine a_ldcs (q := 130 + 17) rfl (hw.ld (i := 17) (by decide)) ?_
  refine a_eV1 rfl lX12_109 mo_X12_isWord (h_isWord (k := 17) hw (by decide) h12 hbp hq) rfl rfl rfl ⟨12, _, rfl, rfl, rfl⟩ rfl ?_
  refine a_top (y := bI (isWd T e b 17)) (by rw [hT]; exact congrArg bI (hi 17 (by decide))) ?_
  cases c17 : isWd T e b 17 with
  | false =>
    refine a_if_eq rfl (fun _ => ?_) (fun z => absurd rfl z)
    rw [show kndP T e b = -1 from (if_neg (by rw [c15]; decide)).trans ((if_neg (by rw [c16]; decide)).trans (if_neg (by rw [c17]; decide)))] at key
    refine a_s rfl rfl ?_
    exact key
  | true =>
    refine a_if_eq rfl (fun z => absurd z (by decide)) (fun _ => ?_)
    rw [show kndP T e b = 2 from (if_neg (by rw [c15]; decide)).trans ((if_neg (by rw [c16]; decide)).trans (if_pos c17))] at key
    refine a_s rfl rfl ?_
    refine a_goto rfl ?_
    exact key
/-- what reading a law's text may change, behind its beginning -/
def sG (q k : Nat) : Bool := sR q k || ((Nat.beq q 420 && (Nat.beq k 13 || Nat.beq k 16)) || (Nat.beq q 421 && Nat.ble 1184 k))
theorem sG_hi {k : Nat} (h : 1184 ≤ k) : sG 421 k = true := by
  show (false || (false || (true && Nat.ble 1184 k))) = true
  rw [Nat.ble_eq_true_of_le h]
  rfl
theorem sG_lo {k : Nat} (h : k < 1184) : sG 421 k = false := by
  show (false || (false || (true && Nat.ble 1184 k))) = false
  rw [ble_f h]
  rfl
theorem sR_sG : ∀ q k, sR q k = true → sG q k = true := fun q k h => by
  unfold sG
  rw [h]
  rfl
theorem sZ_sG {nl n : Nat} : ∀ q k, sZ nl n q k = true → sG q k = true := fun q k h => by
  by_cases c : q = 421
  · subst c
    refine sG_hi ?_
    rcases Nat.lt_or_ge k 1184 with g | g
    · rw [sZ_lo (by omega) (by omega)] at h
      cases h
    · exact g
  · unfold sZ at h
    unfold sG
    rw [beqF c] at h ⊢
    exact h
theorem sG_sL : ∀ q k, sG q k = true → sL q k = true := fun q k h => by
  by_cases c : q = 421
  · subst c
    refine sL_hi ?_
    rcases Nat.lt_or_ge k 1184 with g | g
    · rw [sG_lo g] at h
      cases h
    · exact g
  · refine sZ_sL (nl := 0) (n := 0) q k ?_
    unfold sG at h
    unfold sZ
    rw [beqF c] at h ⊢
    exact h
theorem Dl.rd {J : Nat → Nat → Int32} {b2 p' : Nat} (h : Dl T e b o ls I p) (r : Rd e p b2 p' I J) (hb : rn T e 4 p' = b) : Dl T e b o ls J p' := by
  obtain ⟨-, -, h3, h4, h5, h6⟩ := h
  exact ⟨Rd.pp r, hb, (Rd.fm r 420 16 rfl).trans h3, by rw [Rd.w r]; exact h4, by rw [Rd.w r]; exact h5, h6⟩
theorem h_readLineL (hw : WdS S) (hbt : BtT T) (hT : I 426 = T) (h : Dl T e b o ls I p) (hl : ls.length ≤ 12) : Sp S m_X12_readLine 60 0 0 [.ref 420, .int (bI false), .int (nI ls.length)] (hp I L w1 w2 t) (fun v h' => v = some (.int (bI (decide (ls.length < 12) && (lnP T e b o).1))) ∧ ∃ J p', h' = hp J L w1 w2 t ∧ Fm sG I J ∧ (ls.length < 12 → (lnP T e b o).1 = false → J 420 12 = nI (lnP T e b o).2.1) ∧ (¬ ls.length < 12 → J 420 12 = nI b) ∧ (ls.length < 12 → (lnP T e b o).1 = true → Dl T e (lnP T e b o).2.1 (lnP T e b o).2.2 (lnV T e b o (lnP T e b o).2.2 :: ls) J p')) nX := by
  obtain ⟨hq, hnb, hst, hrs, hrl, hB⟩ := h
  refine Sp_of ok_X12_readLine rfl rfl ?_
  show AW S m_X12_readLine 60 _ _ 0 0 0 [some (.ref 420), some (.int (bI false)), some (.int (nI ls.length))] [] (hp I L w1 w2 t)
  refine a_l0 rfl rfl rfl ?_
  refine a_gV rfl lX12_106 mo_X12_letters (h_letters hq) rfl rfl rfl ⟨12, _, rfl, rfl, rfl⟩ rfl (fun v' h' hv => ?_)
  obtain ⟨rfl, J, rfl, h1⟩ := hv
  rw [hT, hnb] at h1
  have f1 : Fm sG I J := Fm.mo (Rd.fm h1) sR_sG
  have hbe : b ≤ e := by
    rw [← hnb]
    exact rn_le (Pp.le hq)
  refine a_l2 rfl rfl rfl ?_
  refine a_l1 rfl rfl rfl ?_
  refine a_if_eq rfl (fun _ => ?_) (fun c => absurd rfl c)
  refine a_s rfl rfl ?_
  refine a_ic_ge rfl (fun c => ?_) (fun c => ?_)
  · have h12 := nI_ge_of (b := 12) c (by omega) (by decide)
    have n12 : ¬ ls.length < 12 := by omega
    rw [show decide (ls.length < 12) = false from decide_eq_false n12]
    refine a_s rfl rfl ?_
    exact a_zret rfl rfl rfl ⟨rfl, J, 0, rfl, f1, fun z => absurd z n12, fun _ => Rd.be h1, fun z => absurd z n12⟩
  have hnl : ls.length < 12 := nI_lt_of (b := 12) c (by omega) (by decide)
  rw [show decide (ls.length < 12) = true from decide_eq_true hnl]
  refine a_l1 rfl rfl rfl ?_
  refine a_if_eq rfl (fun _ => ?_) (fun c => absurd rfl c)
  refine a_l0 rfl rfl rfl ?_
  refine a_l2 rfl rfl rfl ?_
  have eT : J 426 = T := (Rd.T h1).trans hT
  refine a_gV rfl lX12_229 mo_X12_readLawLine (h_readLawLine hw hbt eT hnl (Rd.be h1) (Rd.pp h1) rfl (by rw [← hnb]; exact rn_rn) ((Rd.fm h1 420 16 rfl).trans hst) (by rw [Rd.w h1]; exact hrs) (by rw [Rd.w h1]; exact hrl) hB hbe) rfl rfl rfl ⟨12, _, rfl, rfl, rfl⟩ rfl (fun v' h' hv => ?_)
  obtain ⟨rfl, J2, p2, rfl, f2, hn2, hy2⟩ := hv
  have f3 : Fm sG I J2 := Fm.tr f1 (Fm.mo f2 sZ_sG)
  cases c3 : (lnP T e b o).1 with
  | false =>
    refine a_if_eq rfl (fun _ => ?_) (fun z => absurd rfl z)
    refine a_s rfl rfl ?_
    exact a_zret rfl rfl rfl ⟨rfl, J2, 0, rfl, f3, fun _ _ => hn2 c3, fun z => absurd hnl z, fun _ z => by cases z⟩
  | true =>
    refine a_if_eq rfl (fun z => absurd z (by decide)) (fun _ => ?_)
    refine a_s rfl rfl ?_
    refine a_goto rfl ?_
    exact a_zret rfl rfl rfl ⟨rfl, J2, p2, rfl, f3, fun _ z => (by cases z), fun z => absurd hnl z, fun _ _ => hy2 c3⟩
/-- behind all lines -/
def LwR (r : LRs) (J : Nat → Nat → Int32) : Prop := J 420 16 = nI r.2.2.1.length ∧ RowS (J 421) r.2.2.1 ∧ LnW (J 421) r.2.2.2 ∧ r.2.2.2.length ≤ 12 ∧ r.2.2.1.length ≤ 400
theorem h_readAllL (hw : WdS S) (hbt : BtT T) (hT : I 426 = T) (h9 : I 420 9 = nI e) (h4 : e ≤ 400) : Sp S m_X12_readAll 61 0 0 [.ref 420, .int (bI false)] (hp I L w1 w2 t) (fun v h' => v = some (.int (if (lawP T e).1 = true then nI (lawP T e).2.2.2.length else -1)) ∧ ∃ J, h' = hp J L w1 w2 t ∧ Fm sG (usH I) J ∧ ((lawP T e).1 = false → J 420 12 = nI (lawP T e).2.1) ∧ ((lawP T e).1 = true → LwR (lawP T e) J)) nX := by
  refine Sp_of ok_X12_readAll rfl rfl ?_
  show AW S m_X12_readAll 61 _ _ 0 0 0 [some (.ref 420), some (.int (bI false)), none] [] (hp I L w1 w2 t)
  have T0 : up2 (usH I) 420 16 0 426 = T := ((up2_row (by decide)).trans (usH_row (by decide))).trans hT
  have P0 : Pp e 0 (up2 (usH I) 420 16 0) := ⟨(up2_ne (Or.inr (by decide))).trans up2_at, ((up2_ne (Or.inr (by decide))).trans usH_11).trans h9, Nat.zero_le _, h4⟩
  have F0 : Fm sG (usH I) (up2 (usH I) 420 16 0) := Fm.up Fm.rf rfl
  refine a_l0 rfl rfl rfl ?_
  refine a_eV0 rfl lX12_232 mo_X12_uses r_X12_uses rfl rfl rfl ⟨12, _, rfl, rfl, rfl⟩ rfl ?_
  refine a_l0 rfl rfl rfl ?_
  refine a_s rfl rfl ?_
  refine a_puti rfl pfX12_168_12 rfl ?_
  refine a_l0 rfl rfl rfl ?_
  refine a_gV rfl lX12_94 mo_X12_blanks (h_blanks (I := up2 (usH I) 420 16 0) P0) rfl rfl rfl ⟨12, _, rfl, rfl, rfl⟩ rfl (fun v' h' hv => ?_)
  obtain ⟨rfl, J1, rfl, h1⟩ := hv
  rw [T0] at h1
  have h1 : Rd e 0 (bg T e 0) (bg T e 0) (up2 (usH I) 420 16 0) J1 := h1
  have F1 : Fm sG (usH I) J1 := Fm.tr F0 (Fm.mo (Rd.fm h1) sR_sG)
  have D1 : Dl T e (bg T e 0) [] [] J1 (bg T e 0) := ⟨Rd.pp h1, bg_sk 0, (Rd.fm h1 420 16 rfl).trans (up2_at.trans nI_0.symm), trivial, trivial, Nat.zero_le _⟩
  have hb0 := bg_le (T := T) (e := e) 0
  refine a_l0 rfl rfl rfl ?_
  refine a_geti rfl gfX12_81_12 rfl ?_
  refine a_top (y := nI (bg T e 0)) (Pp.pu (Rd.pp h1)) ?_
  refine a_l0 rfl rfl rfl ?_
  refine a_geti rfl gfX12_84_12 rfl ?_
  refine a_top (y := nI e) (Pp.en (Rd.pp h1)) ?_
  refine a_ic_ne rfl (fun c0 => ?_) (fun c0 => ?_)
  rotate_left
  · have c0 := nI_inj (by omega) (by omega) c0
    have el : lawP T e = (true, bg T e 0, [], []) := if_neg (by omega)
    rw [el, if_pos rfl]
    refine a_s rfl rfl ?_
    exact a_iret rfl rfl ⟨nI_0 ▸ rfl, J1, rfl, F1, fun z => (by cases z), fun _ => ⟨D1.2.2.1, trivial, trivial, Nat.zero_le _, Nat.zero_le _⟩⟩
  have c0 : bg T e 0 < e := by
    rcases Nat.lt_or_ge (bg T e 0) e with g | g
    · exact g
    · exact absurd (congrArg nI (show bg T e 0 = e by omega)) c0
  refine a_s rfl rfl ?_
  refine a_s2 rfl rfl rfl rfl rfl rfl ?_
  refine a_inv (n := 12) (fun m ls h => ∃ b' o' ls' p' J, ls = [some (.ref 420), some (.int (bI false)), some (.int (nI ls'.length))] ∧ h = hp J L w1 w2 t ∧ Dl T e b' o' ls' J p' ∧ Fm sG (usH I) J ∧ lnsP T e (12 - ls'.length) b' o' ls' = lawP T e ∧ ls'.length ≤ 12 ∧ m = 12 - ls'.length) ⟨bg T e 0, [], [], bg T e 0, J1, rfl, rfl, D1, F1, (if_pos c0).symm, by decide, rfl⟩ ?_
  rintro m _ _ ⟨b', o', ls', p', J, rfl, rfl, hD, hF, es, hl, hm⟩ ih
  have eT : J 426 = T := ((funext fun k => hF 426 k rfl).trans (usH_row (by decide))).trans hT
  refine a_l0 rfl rfl rfl ?_
  refine a_l1 rfl rfl rfl ?_
  refine a_l2 rfl rfl rfl ?_
  refine a_gV rfl lX12_235 mo_X12_readLine (h_readLineL hw hbt eT hD hl) rfl rfl rfl ⟨12, _, rfl, rfl, rfl⟩ rfl (fun v' h' hv => ?_)
  obtain ⟨rfl, J2, p2, rfl, f2, hn2, hx2, hy2⟩ := hv
  have hF2 : Fm sG (usH I) J2 := Fm.tr hF f2
  have hb' : b' ≤ e := by
    rw [← hD.2.1]
    exact rn_le (Pp.le hD.1)
  have gd := lnP_gd (T := T) (o := o') hb'
  by_cases c12 : ls'.length < 12
  rotate_left
  · rw [show 12 - ls'.length = 0 by omega] at es
    have es : lawP T e = (false, b', [], []) := es.symm
    rw [show decide (ls'.length < 12) = false from decide_eq_false c12]
    refine a_if_ne rfl (fun z => absurd rfl z) (fun _ => ?_)
    refine a_s rfl rfl ?_
    rw [es, if_neg Bool.false_ne_true]
    exact a_iret rfl rfl ⟨rfl, J2, rfl, hF2, fun _ => hx2 c12, fun z => by cases z⟩
  obtain ⟨f, hf⟩ : ∃ f, 12 - ls'.length = f + 1 := ⟨12 - ls'.length - 1, by omega⟩
  rw [hf, lnsP_s] at es
  rw [show decide (ls'.length < 12) = true from decide_eq_true c12]
  have hn2 := hn2 c12
  have hy2 := hy2 c12
  clear hx2
  rcases er : lnP T e b' o' with ⟨z, b1, o1⟩
  rw [er] at es hn2 hy2 gd
  cases z with
  | false =>
    refine a_if_ne rfl (fun z => absurd rfl z) (fun _ => ?_)
    have es : lawP T e = (false, b1, [], []) := es.symm
    refine a_s rfl rfl ?_
    rw [es, if_neg Bool.false_ne_true]
    exact a_iret rfl rfl ⟨rfl, J2, rfl, hF2, fun _ => hn2 rfl, fun z => by cases z⟩
  | true =>
  refine a_if_ne rfl (fun _ => ?_) (fun z => absurd (show (1 : Int32) = 0 from z) (by decide))
  rw [if_pos rfl] at es
  have D2 : Dl T e b1 o1 (lnV T e b' o' o1 :: ls') J2 p2 := hy2 rfl
  obtain ⟨-, g2, g3⟩ := gd
  have g2 : b1 ≤ e := g2
  have eT2 : J2 426 = T := (funext fun k => f2 426 k rfl).trans eT
  refine a_l0 rfl rfl rfl ?_
  refine a_gV rfl lX12_94 mo_X12_blanks (h_blanks D2.1) rfl rfl rfl ⟨12, _, rfl, rfl, rfl⟩ rfl (fun v' h' hv => ?_)
  obtain ⟨rfl, J3, rfl, h3⟩ := hv
  rw [eT2, D2.2.1] at h3
  have hF3 : Fm sG (usH I) J3 := Fm.tr hF2 (Fm.mo (Rd.fm h3) sR_sG)
  have D3 := Dl.rd D2 h3 (by rw [← D2.2.1]; exact rn_rn)
  have eT3 : J3 426 = T := (Rd.T h3).trans eT2
  refine a_l0 rfl rfl rfl ?_
  refine a_geti rfl gfX12_81_12 rfl ?_
  refine a_top (y := nI b1) (Pp.pu (Rd.pp h3)) ?_
  refine a_l0 rfl rfl rfl ?_
  refine a_geti rfl gfX12_84_12 rfl ?_
  refine a_top (y := nI e) (Pp.en (Rd.pp h3)) ?_
  refine a_ic_ne rfl (fun c1 => ?_) (fun c1 => ?_)
  rotate_left
  · have c1 := nI_inj (by omega) (by omega) c1
    have es : lawP T e = (true, b1, o1, lnV T e b' o' o1 :: ls') := es.symm.trans (if_neg (show ¬ b1 < e by omega))
    refine a_l2 rfl rfl rfl ?_
    refine a_s rfl rfl ?_
    refine a_s rfl rfl ?_
    refine a_top (y := nI (ls'.length + 1)) ((nI_succ _).symm) ?_
    rw [es, if_pos rfl]
    obtain ⟨-, -, x1, x2, x3, x4⟩ := D3
    exact a_iret rfl rfl ⟨rfl, J3, rfl, hF3, fun z => (by cases z), fun _ => ⟨x1, x2, x3, by show ls'.length + 1 ≤ 12; omega, by show o1.length ≤ 400; omega⟩⟩
  have c1 : b1 < e := by
    rcases Nat.lt_or_ge b1 e with g | g
    · exact g
    · exact absurd (congrArg nI (show b1 = e by omega)) c1
  have es := (if_pos c1).symm.trans es
  refine a_l0 rfl rfl rfl ?_
  refine a_s rfl rfl ?_
  refine a_s rfl rfl ?_
  refine a_eV1 rfl lX12_87 mo_X12_isAt (h_isAt (Rd.pp h3)) rfl rfl rfl ⟨12, _, rfl, rfl, rfl⟩ rfl ?_
  refine a_top (y := bI (sg T e b1 59)) (by rw [eT3]; exact congrArg bI (at_s (c := 59) hbt h4 (by decide))) ?_
  cases c59 : sg T e b1 59 with
  | true =>
    refine a_if_ne rfl (fun _ => ?_) (fun z => absurd (show (1 : Int32) = 0 from z) (by decide))
    have es := (if_pos c59).symm.trans es
    refine a_l0 rfl rfl rfl ?_
    refine a_s rfl rfl ?_
    refine a_geti rfl gfX12_81_12 rfl ?_
    refine a_top (y := nI b1) (Pp.pu (Rd.pp h3)) ?_
    refine a_s rfl rfl ?_
    refine a_s rfl rfl ?_
    refine a_top (y := nI (b1 + 1)) ((nI_succ _).symm) ?_
    refine a_puti rfl pfX12_81_12 rfl ?_
    refine a_iv2 (y := nI (ls'.length + 1)) rfl rfl rfl ((nI_succ _).symm) ?_
    refine a_goto rfl ?_
    have n1 := nx_lt (T := T) c1
    have e3 := en_3 (of_decide_eq_true c59).1
    obtain ⟨-, -, x1, x2, x3, x4⟩ := D3
    exact ih (12 - (ls'.length + 1)) _ _ (by omega) ⟨nx T e b1, o1, lnV T e b' o' o1 :: ls', b1 + 1, _, rfl, rfl, ⟨Pp.to (Rd.pp h3) (by omega), by rw [← e3]; rfl, (up2_ne (Or.inr (by decide))).trans x1, by rw [up2_row (by decide)]; exact x2, by rw [up2_row (by decide)]; exact x3, by omega⟩, Fm.up hF3 rfl, by rw [show 12 - (lnV T e b' o' o1 :: ls').length = f from (by show 12 - (ls'.length + 1) = f; omega)]; exact es, by show ls'.length + 1 ≤ 12; omega, rfl⟩
  | false =>
    refine a_if_ne rfl (fun z => absurd rfl z) (fun _ => ?_)
    have es : lawP T e = (false, b1, [], []) := es.symm.trans (if_neg (by rw [c59]; decide))
    refine a_s rfl rfl ?_
    rw [es, if_neg Bool.false_ne_true]
    exact a_iret rfl rfl ⟨rfl, J3, rfl, hF3, fun _ => Rd.be h3, fun z => by cases z⟩
theorem h_throwsIf {z : Bool} {x : Int32} : SpE S m_X12_throwsIf 12 [.ref 420, .int (bI z), .int x] (hp I L w1 w2 t) (some (.int (bI z))) (hp (if z = true then up2 I 420 0 x else I) L w1 w2 t) := by
  refine SpE_of ok_X12_throwsIf rfl rfl ?_
  show AW S m_X12_throwsIf 12 _ _ 0 0 0 [some (.ref 420), some (.int (bI z)), some (.int x)] [] (hp I L w1 w2 t)
  refine a_l1 rfl rfl rfl ?_
  cases z with
  | false =>
    refine a_if_eq rfl (fun _ => ?_) (fun c => absurd rfl c)
    refine a_l1 rfl rfl rfl ?_
    exact a_zret rfl rfl rfl ⟨rfl, rfl⟩
  | true =>
    refine a_if_eq rfl (fun c => absurd c (by decide)) (fun _ => ?_)
    refine a_l0 rfl rfl rfl ?_
    refine a_l2 rfl rfl rfl ?_
    refine a_puti rfl pfX12_3_12 rfl ?_
    refine a_l1 rfl rfl rfl ?_
    exact a_zret rfl rfl rfl ⟨rfl, rfl⟩
/-- behind a law's text: what stands in the world -/
def LwJ (r : LRs) (I J : Nat → Nat → Int32) : Prop := (r.1 = true → J 421 3 = 1 ∧ J 421 335 = nI r.2.2.2.length ∧ ∃ K, RowS K r.2.2.1 ∧ LnW K r.2.2.2 ∧ ∀ k, 1 ≤ k → k < 849 → J 421 (335 + k) = K (1184 + k)) ∧ (r.1 = false → ∀ k, k < 1184 → J 421 k = I 421 k)
theorem h_law (hw : WdS S) (hr : RI nd np I) (hbt : BtT T) (hT : I 426 = T) (h9 : I 420 9 = nI e) (h4 : e ≤ 400) : Sp S m_X12_law 62 0 0 [.ref 420] (hp I L w1 w2 t) (fun v h' => v = some (.int (if (lawP T e).1 = true then nI (lawP T e).2.2.2.length else 0)) ∧ ∃ J, h' = hp J L w1 w2 t ∧ Us nd np I J ∧ J 420 0 = (if (lawP T e).1 = true then 0 else 1) ∧ J 420 14 = (if (lawP T e).1 = true then -1 else nI (lawP T e).2.1) ∧ (∀ q, q ≠ 420 → q ≠ 421 → J q = I q) ∧ LwJ (lawP T e) I J) nX := by
  refine Sp_of ok_X12_law rfl rfl ?_
  show AW S m_X12_law 62 _ _ 0 0 0 [some (.ref 420), none, none] [] (hp I L w1 w2 t)
  have fU : Fm sL I (usH I) := by
    unfold usH
    exact Fm.up (Fm.up (Fm.up (Fm.up Fm.rf rfl) rfl) rfl) rfl
  have u0 : usH I 420 0 = 0 := by
    unfold usH
    rw [up2_ne (Or.inr (by decide)), up2_ne (Or.inr (by decide)), up2_ne (Or.inr (by decide))]
    exact up2_at
  refine a_l0 rfl rfl rfl ?_
  refine a_s rfl rfl ?_
  refine a_gV rfl lX12_239 mo_X12_readAll (h_readAllL hw hbt hT h9 h4) rfl rfl rfl ⟨12, _, rfl, rfl, rfl⟩ rfl (fun v' h' hv => ?_)
  obtain ⟨rfl, J, rfl, hF, hn, hy⟩ := hv
  have hG : GL I J := ⟨Fm.tr fU (Fm.mo hF sG_sL), (hF 420 9 rfl).trans usH_9⟩
  have j0 : J 420 0 = 0 := (hF 420 0 rfl).trans u0
  have other : ∀ q, q ≠ 420 → q ≠ 421 → J q = I q := fun q g1 g2 => by
    rw [show J q = usH I q from funext fun k => hF q k (by unfold sG sR; rw [beqF g1, beqF g2]; rfl), usH_row g1]
  rcases er : lawP T e with ⟨z, b1, o1, l1⟩
  rw [er] at hn hy
  have lok := lawP_ok (T := T) (e := e)
  rw [er] at lok
  cases z with
  | false =>
    refine a_top (y := (-1)) (rfl) ?_
    refine a_s1 rfl rfl rfl rfl rfl rfl ?_
    refine a_l0 rfl rfl rfl ?_
    refine a_l1 rfl rfl rfl ?_
    refine a_if_ge rfl (fun c => absurd c (by decide)) (fun _ => ?_)
    refine a_l0 rfl rfl rfl ?_
    refine a_getiv (v := nI b1) rfl gfX12_91_12 rfl (hn rfl) ?_
    refine a_goto rfl ?_
    refine a_puti rfl pfX12_33_12 rfl ?_
    refine a_l0 rfl rfl rfl ?_
    refine a_l1 rfl rfl rfl ?_
    refine a_if_ge rfl (fun c => absurd c (by decide)) (fun _ => ?_)
    refine a_s rfl rfl ?_
    refine a_goto rfl ?_
    refine a_s rfl rfl ?_
    refine a_eV1 rfl lX12_243 mo_X12_throwsIf (h_throwsIf (z := true)) rfl rfl rfl ⟨12, _, rfl, rfl, rfl⟩ rfl ?_
    rw [if_pos rfl]
    refine a_if_eq rfl (fun c => absurd c (by decide)) (fun _ => ?_)
    refine a_s rfl rfl ?_
    have g2 : GL I (up2 (up2 J 420 14 (nI b1)) 420 0 1) := ⟨Fm.up (Fm.up hG.1 rfl) rfl, (up2_ne (Or.inr (by decide))).trans ((up2_ne (Or.inr (by decide))).trans hG.2)⟩
    refine a_iret rfl rfl ⟨rfl, _, rfl, Us.same hr g2, ?_, ?_, ?_, ?_, ?_⟩
    · exact up2_at
    · exact (up2_ne (Or.inr (by decide))).trans up2_at
    · intro q g1 g3
      rw [up2_row g1, up2_row g1]
      exact other q g1 g3
    · exact fun z => by cases z
    · intro _ k hk
      rw [up2_row (by decide), up2_row (by decide), hF 421 k (sG_lo hk), usH_row (by decide)]
  | true =>
    refine a_top (y := nI l1.length) (rfl) ?_
    obtain ⟨x1, x2, x3, x4, x5⟩ := hy rfl
    have x4 : l1.length ≤ 12 := x4
    have x5 : o1.length ≤ 400 := x5
    refine a_s1 rfl rfl rfl rfl rfl rfl ?_
    refine a_l0 rfl rfl rfl ?_
    refine a_l1 rfl rfl rfl ?_
    refine a_if_ge rfl (fun _ => ?_) (fun c => absurd (nI_0le (k := l1.length) (by omega)) c)
    refine a_s rfl rfl ?_
    refine a_puti rfl pfX12_33_12 rfl ?_
    refine a_l0 rfl rfl rfl ?_
    refine a_l1 rfl rfl rfl ?_
    refine a_if_ge rfl (fun _ => ?_) (fun c => absurd (nI_0le (k := l1.length) (by omega)) c)
    refine a_s rfl rfl ?_
    refine a_s rfl rfl ?_
    refine a_eV1 rfl lX12_243 mo_X12_throwsIf (h_throwsIf (z := false)) rfl rfl rfl ⟨12, _, rfl, rfl, rfl⟩ rfl ?_
    rw [if_neg Bool.false_ne_true]
    generalize hK : up2 J 420 14 (-1) = K
    have gK : GL I K := by
      subst hK
      exact ⟨Fm.up hG.1 rfl, (up2_ne (Or.inr (by decide))).trans hG.2⟩
    have eK : K 421 = J 421 := by
      subst hK
      exact up2_row (by decide)
    have k0 : K 420 0 = 0 := by
      subst hK
      exact (up2_ne (Or.inr (by decide))).trans j0
    have k14 : K 420 14 = -1 := by
      subst hK
      exact up2_at
    have kother : ∀ q, q ≠ 420 → q ≠ 421 → K q = I q := fun q g1 g2 => by
      subst hK
      rw [up2_row g1]
      exact other q g1 g2
    have fin := Us.law (nl := l1.length) hr gK x4 x5 (by rw [eK]; exact LD_of x2 x3 (lok rfl))
    refine a_if_eq rfl (fun _ => ?_) (fun c => absurd rfl c)
    refine a_l0 rfl rfl rfl ?_
    refine a_getq rfl gfX12_13_12 rfl (rfl) ?_
    refine a_s rfl rfl ?_
    refine a_l1 rfl rfl rfl ?_
    refine a_iastv (k := 1184) rfl (n := 2033) rfl ⟨by decide, by decide⟩ rfl ?_
    refine a_s rfl rfl ?_
    refine a_s2 rfl rfl rfl rfl rfl rfl ?_
    refine a_forE (n := 849) (fun j => [some (.ref 420), some (.int (nI l1.length)), some (.int (nI j))]) (fun j => hp (cpR (up2 K 421 1184 (nI l1.length)) 421 335 421 1184 j) L w1 w2 t) (by simp [lsub, nI_0]) (by rw [cpR_0]) ?_ (fun j hj ih => ?_)
    · refine a_l2 rfl rfl rfl ?_
      refine a_s rfl rfl ?_
      refine a_ic_ge rfl (fun _ => ?_) (fun c => absurd (Int32.le_refl _) c)
      refine a_l0 rfl rfl rfl ?_
      refine a_getq rfl gfX12_13_12 rfl (rfl) ?_
      refine a_s rfl rfl ?_
      refine a_s rfl rfl ?_
      refine a_iastv (k := 3) rfl (n := 2033) rfl ⟨by decide, by decide⟩ rfl ?_
      refine a_l0 rfl rfl rfl ?_
      refine a_s rfl rfl ?_
      refine a_puti rfl pfX12_53_12 rfl ?_
      refine a_l1 rfl rfl rfl ?_
      have r0 : ∀ k, k ≠ 7 → lawH K l1.length 420 k = K 420 k := fun k hk => by
        unfold lawH
        rw [up2_ne (Or.inr hk), up2_row (by decide), cpR_row (by decide), up2_row (by decide)]
      refine a_iret rfl rfl ⟨rfl, _, rfl, fin, ?_, ?_, ?_, ?_, ?_⟩
      · exact (r0 0 (by decide)).trans k0
      · exact (r0 14 (by decide)).trans k14
      · intro q g1 g2
        show lawH K l1.length q = I q
        unfold lawH
        rw [up2_row g1, up2_row g2, cpR_row g2, up2_row g2]
        exact kother q g1 g2
      · refine fun _ => ⟨?_, ?_, J 421, x2, x3, fun k k1 k2 => ?_⟩
        · show lawH K l1.length 421 3 = 1
          unfold lawH
          rw [up2_row (by decide)]
          exact up2_at
        · show lawH K l1.length 421 335 = nI l1.length
          unfold lawH
          rw [up2_row (by decide), u2_lo (by decide), show 335 = 335 + 0 by omega, cpR_in (by decide)]
          exact up2_at
        · show lawH K l1.length 421 (335 + k) = _
          unfold lawH
          rw [up2_row (by decide), u2_lo (by omega), cpR_in k2, u2_lo (by omega), eK, Nat.add_comm]
      · exact fun z => by cases z
    · refine a_l2 rfl rfl rfl ?_
      refine a_s rfl rfl ?_
      refine a_ic_ge rfl (fun c => absurd c (nI_ge (b := 849) hj (by omega))) (fun _ => ?_)
      refine a_l0 rfl rfl rfl ?_
      refine a_getq rfl gfX12_13_12 rfl (rfl) ?_
      refine a_s rfl rfl ?_
      refine a_l2 rfl rfl rfl ?_
      refine a_s rfl rfl ?_
      refine a_top (y := nI (335 + j)) (nI_addl 335 j) ?_
      refine a_l0 rfl rfl rfl ?_
      refine a_getq rfl gfX12_13_12 rfl (rfl) ?_
      refine a_s rfl rfl ?_
      refine a_l2 rfl rfl rfl ?_
      refine a_s rfl rfl ?_
      refine a_top (y := nI (1184 + j)) (nI_addl 1184 j) ?_
      refine a_ialdv (v := up2 K 421 1184 (nI l1.length) 421 (j + 1184)) rfl (n := 2033) rfl (inI_nI (by omega) (by omega)) (by rw [nI_clamp (by omega), cpR_out (by omega), Nat.add_comm]) ?_
      refine a_iastv (k := 335 + j) rfl (n := 2033) rfl (inI_nI (by omega) (by omega)) (nI_clamp (by omega)) ?_
      rw [cpR_succ]
      refine a_i2 rfl rfl rfl ?_
      refine a_goto rfl ?_
      exact a_back ih (by simp [lsub, nI_1]) rfl
end T79i
end
section
/-! ===== what a feed writes, on both sides ===== -/
section T79j
variable {S : aS} {I : Nat → Nat → Int32} {L : Nat → Nat → Int64} {w1 w2 t : Nat} {l : Nat} {x1 x2 x3 x4 x5 : Int32}
set_option maxRecDepth 100000
def gvF (x1 x2 x3 x4 x5 : Int32) (q : Nat) : Int32 := if q = 0 then x1 else if q = 1 then x2 else if q = 2 then x3 else if q = 3 then x4 else x5
/-- the j-th of twenty bytes -/
def fbF (x1 x2 x3 x4 x5 : Int32) (j : Nat) : Int32 := byA (gvF x1 x2 x3 x4 x5 (j / 4)) (nI (24 - 8 * (j % 4)))
/-- a tape's row behind j of them -/
def tpF (f : Nat → Int32) (l j : Nat) (x1 x2 x3 x4 x5 : Int32) : Nat → Int32 := fun k => if l ≤ k ∧ k < l + j then fbF x1 x2 x3 x4 x5 (k - l) else f k
theorem tpF_0 {f : Nat → Int32} : tpF f l 0 x1 x2 x3 x4 x5 = f := by
  funext k
  exact if_neg (by omega)
theorem by_ok : ∀ n, n < 256 → (nI n - 128).toInt8.toInt32 = nI n - 128 := by decide +kernel
theorem i8_rng (x : Int8) : ∃ n, n < 256 ∧ x.toInt32 = nI n - 128 := by
  have h1 := Int8.le_toInt x
  have h2 := Int8.toInt_lt x
  refine ⟨(x.toInt + 128).toNat, by omega, ?_⟩
  rw [← Int32.toInt_inj, Int8.toInt_toInt32, Int32.toInt_sub, nI_toInt (by omega), show (128 : Int32).toInt = 128 from rfl, Int.bmod_eq_of_le (by omega) (by omega)]
  omega
theorem tpF_bt {f : Nat → Int32} {j : Nat} (h : BtT f) : BtT (tpF f l j x1 x2 x3 x4 x5) := fun k hk => by
  unfold tpF
  by_cases c : l ≤ k ∧ k < l + j
  · rw [if_pos c]
    exact i8_rng _
  · rw [if_neg c]
    exact h k hk
theorem apH_at {x : Int32} {i : Nat} (hi : i < 4) : apH I l x 202 (l + i) = byA x (nI (24 - 8 * i)) := by
  unfold apH
  rcases i with _ | _ | _ | _ | i
  · rw [up2_row (by decide), up2_ne (Or.inr (by omega)), up2_row (by decide), up2_ne (Or.inr (by omega)), up2_row (by decide), up2_ne (Or.inr (by omega)), up2_row (by decide)]
    exact up2_at
  · rw [up2_row (by decide), up2_ne (Or.inr (by omega)), up2_row (by decide), up2_ne (Or.inr (by omega)), up2_row (by decide)]
    exact up2_at
  · rw [up2_row (by decide), up2_ne (Or.inr (by omega)), up2_row (by decide)]
    exact up2_at
  · rw [up2_row (by decide)]
    exact up2_at
  · omega
theorem apH_out {x : Int32} {k : Nat} (h : k < l ∨ l + 4 ≤ k) : apH I l x 202 k = I 202 k := by
  unfold apH
  rw [up2_row (by decide), up2_ne (Or.inr (by omega)), up2_row (by decide), up2_ne (Or.inr (by omega)), up2_row (by decide), up2_ne (Or.inr (by omega)), up2_row (by decide), up2_ne (Or.inr (by omega))]
/-- a block of four -/
theorem fbF_4 {q i : Nat} (hi : i < 4) : fbF x1 x2 x3 x4 x5 (4 * q + i) = byA (gvF x1 x2 x3 x4 x5 q) (nI (24 - 8 * i)) := by
  unfold fbF
  rw [show (4 * q + i) / 4 = q by omega, show (4 * q + i) % 4 = i by omega]
theorem fdH_202 : fdH I l x1 x2 x3 x4 x5 202 = tpF (I 202) l 20 x1 x2 x3 x4 x5 := by
  funext k
  unfold tpF
  by_cases c : l ≤ k ∧ k < l + 20
  · rw [if_pos c]
    obtain ⟨q, i, hq, hi, e⟩ : ∃ q i, q < 5 ∧ i < 4 ∧ k - l = 4 * q + i := ⟨(k - l) / 4, (k - l) % 4, by omega, by omega, by omega⟩
    rw [e, fbF_4 hi]
    unfold fdH
    rcases q with _ | _ | _ | _ | _ | q
    · rw [apH_out (by omega), apH_out (by omega), apH_out (by omega), apH_out (by omega), show k = l + i by omega, apH_at hi]
      rfl
    · rw [apH_out (by omega), apH_out (by omega), apH_out (by omega), show k = l + 4 + i by omega, apH_at hi]
      rfl
    · rw [apH_out (by omega), apH_out (by omega), show k = l + 8 + i by omega, apH_at hi]
      rfl
    · rw [apH_out (by omega), show k = l + 12 + i by omega, apH_at hi]
      rfl
    · rw [show k = l + 16 + i by omega, apH_at hi]
      rfl
    · omega
  · rw [if_neg c]
    unfold fdH
    rw [apH_out (by omega), apH_out (by omega), apH_out (by omega), apH_out (by omega), apH_out (by omega)]
theorem up_tp {J : Nat → Nat → Int32} {f g : Nat → Int32} {j : Nat} : up2 (upr (upr J 427 g) 426 (tpF f l j x1 x2 x3 x4 x5)) 426 (l + j) (fbF x1 x2 x3 x4 x5 j) = upr (upr J 427 g) 426 (tpF f l (j + 1) x1 x2 x3 x4 x5) := by
  funext q k
  by_cases hq : q = 426
  · subst hq
    rw [upr_at]
    unfold tpF
    by_cases hk : k = l + j
    · subst hk
      rw [up2_at, if_pos (by omega), show l + j - l = j by omega]
    · rw [up2_ne (Or.inr hk), upr_at]
      by_cases c5 : l ≤ k ∧ k < l + j
      · rw [if_pos c5, if_pos (by omega)]
      · rw [if_neg c5, if_neg (by omega)]
  · rw [upr_row hq, up2_row hq, upr_row hq]
theorem sh_ok : ∀ j, j < 20 → 24 - 8 * (nI j - nI j / 4 * 4) = nI (24 - 8 * (j % 4)) := by decide +kernel
theorem h_feed (hl : I 420 9 = nI l) (h4 : l ≤ 400) : Sp S m_X12_feed 12 0 0 [.ref 420, .int x1, .int x2, .int x3, .int x4, .int x5] (hp I L w1 w2 t) (fun v h' => v = some (.int (if l + 20 ≤ 400 then nI (l + 20) else -1)) ∧ ∃ g, h' = hp (if l + 20 ≤ 400 then up2 (upr (upr (up2 I 420 0 0) 427 g) 426 (tpF (I 426) l 20 x1 x2 x3 x4 x5)) 420 9 (nI (l + 20)) else up2 I 420 0 0) L w1 w2 t) nX := by
  refine Sp_of ok_X12_feed rfl rfl ?_
  show AW S m_X12_feed 12 _ _ 0 0 0 [some (.ref 420), some (.int x1), some (.int x2), some (.int x3), some (.int x4), some (.int x5), none] [] (hp I L w1 w2 t)
  refine a_l0 rfl rfl rfl ?_
  refine a_s rfl rfl ?_
  refine a_puti rfl pfX12_3_12 rfl ?_
  refine a_l0 rfl rfl rfl ?_
  refine a_geti rfl gfX12_78_12 rfl ?_
  refine a_top (y := nI l) ((up2_ne (Or.inr (by decide))).trans hl) ?_
  refine a_s rfl rfl ?_
  refine a_s rfl rfl ?_
  refine a_top (y := nI (l + 20)) (nI_addl l 20) ?_
  refine a_s rfl rfl ?_
  refine a_ic_le rfl (fun c => ?_) (fun c => ?_)
  · have hc : l + 20 ≤ 400 := nI_ge_of (a := 400) (b := l + 20) c (by decide) (by omega)
    simp only [if_pos hc]
    refine a_l0 rfl rfl rfl ?_
    refine a_getq rfl gfX12_36_12 rfl (rfl) ?_
    refine a_s rfl rfl ?_
    refine a_l1 rfl rfl rfl ?_
    refine a_iastv (k := 0) rfl (n := 5) rfl ⟨by decide, by decide⟩ rfl ?_
    refine a_l0 rfl rfl rfl ?_
    refine a_getq rfl gfX12_36_12 rfl (rfl) ?_
    refine a_s rfl rfl ?_
    refine a_l2 rfl rfl rfl ?_
    refine a_iastv (k := 1) rfl (n := 5) rfl ⟨by decide, by decide⟩ rfl ?_
    refine a_l0 rfl rfl rfl ?_
    refine a_getq rfl gfX12_36_12 rfl (rfl) ?_
    refine a_s rfl rfl ?_
    refine a_l3 rfl rfl rfl ?_
    refine a_iastv (k := 2) rfl (n := 5) rfl ⟨by decide, by decide⟩ rfl ?_
    refine a_l0 rfl rfl rfl ?_
    refine a_getq rfl gfX12_36_12 rfl (rfl) ?_
    refine a_s rfl rfl ?_
    refine a_l4 rfl rfl rfl ?_
    refine a_iastv (k := 3) rfl (n := 5) rfl ⟨by decide, by decide⟩ rfl ?_
    refine a_l0 rfl rfl rfl ?_
    refine a_getq rfl gfX12_36_12 rfl (rfl) ?_
    refine a_s rfl rfl ?_
    refine a_l5 rfl rfl rfl ?_
    refine a_iastv (k := 4) rfl (n := 5) rfl ⟨by decide, by decide⟩ rfl ?_
    obtain ⟨g, eg, hg⟩ : ∃ g, up2 (up2 (up2 (up2 (up2 (up2 I 420 0 0) 427 0 x1) 427 1 x2) 427 2 x3) 427 3 x4) 427 4 x5 = upr (up2 I 420 0 0) 427 g ∧ ∀ q, q < 5 → g q = gvF x1 x2 x3 x4 x5 q := ⟨up2 (up2 (up2 (up2 (up2 (up2 I 420 0 0) 427 0 x1) 427 1 x2) 427 2 x3) 427 3 x4) 427 4 x5 427, by
      funext q
      by_cases hq : q = 427
      · subst hq
        rw [upr_at]
      · rw [upr_row hq, up2_row hq, up2_row hq, up2_row hq, up2_row hq, up2_row hq], fun q hq => by
      rcases q with _ | _ | _ | _ | _ | q
      · rw [up2_ne (Or.inr (by decide)), up2_ne (Or.inr (by decide)), up2_ne (Or.inr (by decide)), up2_ne (Or.inr (by decide)), up2_at]
        rfl
      · rw [up2_ne (Or.inr (by decide)), up2_ne (Or.inr (by decide)), up2_ne (Or.inr (by decide)), up2_at]
        rfl
      · rw [up2_ne (Or.inr (by decide)), up2_ne (Or.inr (by decide)), up2_at]
        rfl
      · rw [up2_ne (Or.inr (by decide)), up2_at]
        rfl
      · rw [up2_at]
        rfl
      · omega⟩
    rw [eg]
    refine a_s rfl rfl ?_
    refine a_s6 rfl rfl rfl rfl rfl rfl ?_
    refine a_inv (n := 20) (fun m ls h => ∃ j, j + m = 20 ∧ ls = [some (.ref 420), some (.int x1), some (.int x2), some (.int x3), some (.int x4), some (.int x5), some (.int (nI j))] ∧ h = hp (upr (upr (up2 I 420 0 0) 427 g) 426 (tpF (I 426) l j x1 x2 x3 x4 x5)) L w1 w2 t) ⟨0, rfl, rfl, by
      rw [tpF_0]
      congr 1
      congr 1
      funext q
      by_cases hq : q = 426
      · subst hq
        rw [upr_at, upr_row (by decide), up2_row (by decide)]
      · rw [upr_row hq]⟩ ?_
    rintro m _ _ ⟨j, hj, rfl, rfl⟩ ih
    refine a_l6 rfl rfl rfl ?_
    refine a_s rfl rfl ?_
    refine a_ic_ge rfl (fun c2 => ?_) (fun c2 => ?_)
    · refine a_l0 rfl rfl rfl ?_
      refine a_s rfl rfl ?_
      refine a_geti rfl gfX12_78_12 rfl ?_
      refine a_top (y := nI l) (by rw [upr_row (by decide), upr_row (by decide)]; exact (up2_ne (Or.inr (by decide))).trans hl) ?_
      refine a_s rfl rfl ?_
      refine a_s rfl rfl ?_
      refine a_top (y := nI (l + 20)) (nI_addl l 20) ?_
      refine a_puti rfl pfX12_78_12 rfl ?_
      refine a_l0 rfl rfl rfl ?_
      refine a_geti rfl gfX12_78_12 rfl ?_
      refine a_top (y := nI (l + 20)) up2_at ?_
      have hge := nI_ge_of (b := 20) c2 (by omega) (by decide)
      obtain rfl : j = 20 := by omega
      exact a_iret rfl rfl ⟨rfl, g, rfl⟩
    · have hj2 : j < 20 := nI_lt_of (b := 20) c2 (by omega) (by decide)
      refine a_l0 rfl rfl rfl ?_
      refine a_getq rfl gfX12_29_12 rfl (rfl) ?_
      refine a_l0 rfl rfl rfl ?_
      refine a_geti rfl gfX12_78_12 rfl ?_
      refine a_top (y := nI l) (by rw [upr_row (by decide), upr_row (by decide)]; exact (up2_ne (Or.inr (by decide))).trans hl) ?_
      refine a_l6 rfl rfl rfl ?_
      refine a_s rfl rfl ?_
      refine a_top (y := nI (l + j)) (nI_addl l j) ?_
      refine a_l0 rfl rfl rfl ?_
      refine a_getq rfl gfX12_36_12 rfl (rfl) ?_
      refine a_l6 rfl rfl rfl ?_
      refine a_s rfl rfl ?_
      refine a_idiv rfl (by decide) ?_
      refine a_top (y := nI (j / 4)) (nI_div4 j hj2).1 ?_
      refine a_iald rfl (n := 5) rfl (inI_nI (by omega) (by omega)) ?_
      refine a_s rfl rfl ?_
      refine a_s rfl rfl ?_
      refine a_l6 rfl rfl rfl ?_
      refine a_s rfl rfl ?_
      refine a_irem rfl (by decide) ?_
      refine a_s rfl rfl ?_
      refine a_s rfl rfl ?_
      refine a_s rfl rfl ?_
      refine a_s rfl rfl ?_
      refine a_top (y := fbF x1 x2 x3 x4 x5 j) (by rw [upr_row (by decide), upr_at, nI_clamp (by omega), hg (j / 4) (by omega), sh_ok j hj2]; rfl) ?_
      refine a_bastv (k := l + j) rfl (n := 400) rfl (inI_nI (by omega) (by omega)) (by unfold fbF byA; exact i2b_id _) (nI_clamp (by omega)) ?_
      rw [up_tp]
      refine a_i6 rfl rfl rfl ?_
      refine a_goto rfl ?_
      exact a_less (ih (m - 1) _ _ (by omega) ⟨j + 1, by omega, rfl, rfl⟩) ⟨rfl, rfl, rfl, rfl, rfl, rfl, nS _, trivial⟩
  · have hc : ¬ l + 20 ≤ 400 := fun z => c (nI_leu z (by decide))
    simp only [if_neg hc]
    refine a_s rfl rfl ?_
    exact a_iret rfl rfl ⟨rfl, I 427, rfl⟩
end T79j
end
section
/-! ===== law, on both sides, as the law's round calls it ===== -/
section T79k
variable {S : aS} {I : Nat → Nat → Int32} {L : Nat → Nat → Int64} {w1 w2 t : Nat} {e : Nat} {T : Nat → Int32}
set_option maxRecDepth 100000
theorem f_clear : SpE S m_X2_clear 12 [.ref 226] (hp I L w1 w2 t) none (hp (up2 (up2 I 226 0 0) 226 1 0) L w1 w2 t) := by
  refine SpE_of ok_X2_clear rfl rfl ?_
  show AW S m_X2_clear 12 _ _ 0 0 0 [some (.ref 226)] [] (hp I L w1 w2 t)
  refine a_l0 rfl rfl rfl ?_
  refine a_s rfl rfl ?_
  refine a_puti rfl pfX2_11_2 rfl ?_
  refine a_l0 rfl rfl rfl ?_
  refine a_s rfl rfl ?_
  refine a_puti rfl pfX2_41_2 rfl ?_
  exact a_vret rfl rfl ⟨rfl, rfl⟩
theorem sW_sM : ∀ q k, sW q k = true → sM q k = true := fun q k h => by
  have B : ∀ {a b : Nat}, Nat.beq a b = true → a = b := fun z => Nat.eq_of_beq_eq_true z
  have E : ∀ {a b : Nat}, Nat.ble a b = true → a ≤ b := fun z => Nat.le_of_ble_eq_true z
  have hq : (221 ≤ q ∧ q ≤ 234) ∨ (q = 220 ∧ (k = 4 ∨ k = 5)) := by
    simp only [sW, sC, Bool.or_eq_true, Bool.and_eq_true] at h
    rcases h with (h | h | h | ⟨h, h' | h'⟩ | ⟨h, h'⟩) | ⟨h, h'⟩ | ⟨h, h'⟩ | ⟨h, h'⟩
    · have := B h; omega
    · have := B h; omega
    · have := B h; omega
    · have := B h; have := B h'; omega
    · have := B h; have := B h'; omega
    · have := B h; omega
    · have := E h; have := E h'; omega
    · have := E h; have := E h'; omega
    · have := B h; omega
  rcases hq with hq | ⟨rfl, rfl | rfl⟩
  · exact sM_mid (by omega) (by omega) fun z => by have := isSt_lt q (by omega) z; omega
  · rfl
  · rfl
/-- the class's law behind a text -/
def LwC (r : LRs) (J : Nat → Nat → Int32) : Prop := J 200 3 = -1 ∧ J 200 13 = 0 ∧ J 246 0 = nI r.2.2.2.length ∧ LnL (J 247) (J 248) (J 249) (J 250) r.2.2.2 ∧ RowL (J 251) r.2.2.1
theorem f_lawC (hw : WdS S) (he : I 201 1 = nI e) (h4 : e ≤ 400) (hbt : BtT T) (hT : I 202 = T) (hm : I 220 1 = 12) : Sp S m_X11_law 21 1 6 [.ref 200] (hp I L w1 w2 t) (fun v h' => v = some (.int (nI (lawP T e).2.2.2.length)) ∧ (lawP T e).1 = true ∧ ∃ J w, h' = hp J L w1 w t ∧ WK w ∧ Mt0 I J ∧ LwC (lawP T e) J) (fun E h' => E = exN 1 ∧ (lawP T e).1 = false ∧ ∃ J w, h' = hp J L w1 w 0 ∧ WK w ∧ Mt0 I J ∧ J 200 3 = nI (lawP T e).2.1) := by
  refine Sp_of ok_X11_law rfl rfl ?_
  show AW S m_X11_law 21 _ _ 1 6 0 [some (.ref 200)] [] (hp I L w1 w2 t)
  refine a_l0 rfl rfl rfl ?_
  refine a_getq rfl gfX11_26_11 rfl (rfl) ?_
  refine a_getq rfl gfX11_98_3 rfl (rfl) ?_
  refine a_eV0 rfl lX11_100 mo_X2_clear f_clear rfl rfl rfl ⟨2, _, rfl, rfl, rfl⟩ rfl ?_
  refine a_l0 rfl rfl rfl ?_
  refine a_l0 rfl rfl rfl ?_
  refine a_getq rfl gfX11_26_11 rfl (rfl) ?_
  refine a_l0 rfl rfl rfl ?_
  refine a_getq rfl gfX11_10_11 rfl (rfl) ?_
  have g1 : ∀ q, q ≠ 226 → up2 (up2 I 226 0 0) 226 1 0 q = I q := fun q hq => by rw [up2_row hq, up2_row hq]
  refine a_callU rfl lu_103 dc_readLines mo_X8_readLines hx_rl (f_readLines hw ((congrFun (g1 201 (by decide)) 1).trans he) h4 (by rw [g1 202 (by decide), hT]; exact hbt) ((congrFun (g1 220 (by decide)) 1).trans hm) ((up2_ne (Or.inr (by decide))).trans up2_at) up2_at) rfl rfl rfl ⟨3, _, rfl, rfl, rfl⟩ rfl (fun v' h' hv => ?_) (fun _ _ z => False.elim z)
  rw [g1 202 (by decide), hT] at hv
  obtain ⟨rfl, J, w, rfl, hww, hF, hy⟩ := hv
  have fM : Mt I J := Mt.of (Fm.tr (Fm.up (Fm.up Fm.rf rfl) rfl) (Fm.mo hF sW_sM))
  rcases er : lawP T e with ⟨z, b1, o1, l1⟩
  rw [er] at hy
  cases z with
  | false =>
    rw [if_neg Bool.false_ne_true]
    refine a_puti rfl pfX11_30_11 rfl ?_
    refine a_l0 rfl rfl rfl ?_
    refine a_getq rfl gfX11_10_11 rfl (rfl) ?_
    refine a_s rfl rfl ?_
    refine a_puti rfl pfX11_68_7 rfl ?_
    have fM0 : Mt0 I (up2 (up2 J 200 3 (nI b1)) 201 1 0) := Mt0.mk (Mt.fm fM (Fm.up Fm.rf rfl))
    have e3 : up2 (up2 J 200 3 (nI b1)) 201 1 0 200 3 = nI b1 := (congrFun (up2_row (by decide)) 3).trans up2_at
    refine a_l0 rfl rfl rfl ?_
    refine a_getiv (v := nI b1) rfl gfX11_30_11 rfl (e3) ?_
    refine a_s rfl rfl ?_
    have hb1 : b1 < 2 ^ 31 := by
      have := lawP_le (T := T) (e := e)
      rw [er] at this
      have this : b1 ≤ e := this
      omega
    refine a_ic_eq rfl (fun c => absurd c ?_) (fun _ => ?_)
    · intro z
      have := nI_pos hb1
      rw [z] at this
      exact this (by decide)
    exact a_throw rfl rfl rfl rfl tX11_iae rfl rfl rfl rfl rfl ⟨rfl, rfl, _, w, rfl, hww, fM0, e3⟩
  | true =>
    rw [if_pos rfl]
    obtain ⟨y1, y2, y3, y4, -, -⟩ := hy rfl
    refine a_puti rfl pfX11_30_11 rfl ?_
    refine a_l0 rfl rfl rfl ?_
    refine a_getq rfl gfX11_10_11 rfl (rfl) ?_
    refine a_s rfl rfl ?_
    refine a_puti rfl pfX11_68_7 rfl ?_
    have fM0 : Mt0 I (up2 (up2 J 200 3 (-1)) 201 1 0) := Mt0.mk (Mt.fm fM (Fm.up Fm.rf rfl))
    refine a_l0 rfl rfl rfl ?_
    refine a_getiv (v := (-1)) rfl gfX11_30_11 rfl ((congrFun (up2_row (by decide)) 3).trans up2_at) ?_
    refine a_s rfl rfl ?_
    refine a_ic_eq rfl (fun _ => ?_) (fun c => absurd rfl c)
    refine a_l0 rfl rfl rfl ?_
    refine a_getq rfl gfX11_44_11 rfl (rfl) ?_
    refine a_l0 rfl rfl rfl ?_
    refine a_getq rfl gfX11_26_11 rfl (rfl) ?_
    refine a_getq rfl gfX11_98_3 rfl (rfl) ?_
    refine a_eV0 rfl lX11_104 mo_X2_copyFrom (sp_X2_copyFrom (a := 246) (b := 226) (by decide) (by decide) (by decide)) rfl rfl rfl ⟨2, _, rfl, rfl, rfl⟩ rfl ?_
    refine a_l0 rfl rfl rfl ?_
    refine a_s rfl rfl ?_
    refine a_puti rfl pfX11_95_11 rfl ?_
    have fM1 : Mt0 I (up2 (cpL (up2 (up2 J 200 3 (-1)) 201 1 0) 246 226) 200 13 0) := Mt0.fm (Mt0.fm fM0 (Fm.cl (Fm.rf (s := sM)) (by decide) Fm_l246)) (Fm.up Fm.rf rfl)
    have r0 : ∀ k, up2 (cpL (up2 (up2 J 200 3 (-1)) 201 1 0) 246 226) 200 13 0 246 k = cpL (up2 (up2 J 200 3 (-1)) 201 1 0) 246 226 246 k := fun k => congrFun (up2_row (by decide)) k
    have e0 : up2 (cpL (up2 (up2 J 200 3 (-1)) 201 1 0) 246 226) 200 13 0 246 0 = nI l1.length := by
      rw [r0]
      unfold cpL
      rw [up2_at, up2_row (by decide), up2_row (by decide)]
      exact y3
    have ri : ∀ i, i < 5 → up2 (cpL (up2 (up2 J 200 3 (-1)) 201 1 0) 246 226) 200 13 0 (247 + i) = J (227 + i) := fun i hi => by
      rw [up2_row (by omega)]
      unfold cpL
      rw [up2_row (by omega), show 247 + i = 246 + 1 + i from rfl, cpS_in hi, up2_row (by omega), up2_row (by omega)]
    refine a_l0 rfl rfl rfl ?_
    refine a_getq rfl gfX11_44_11 rfl (rfl) ?_
    refine a_getiv (v := nI l1.length) rfl gfX11_107_2 rfl (e0) ?_
    refine a_iret rfl rfl ⟨rfl, rfl, _, w, rfl, hww, fM1, ?_, up2_at, e0, ?_, ?_⟩
    · rw [up2_ne (Or.inr (by decide))]
      unfold cpL
      rw [up2_row (by decide), cpS_out (by decide), up2_row (by decide)]
      exact up2_at
    · rw [show (247 : Nat) = 247 + 0 from rfl, show (248 : Nat) = 247 + 1 from rfl, show (249 : Nat) = 247 + 2 from rfl, show (250 : Nat) = 247 + 3 from rfl, ri 0 (by decide), ri 1 (by decide), ri 2 (by decide), ri 3 (by decide)]
      exact y4
    · rw [show (251 : Nat) = 247 + 4 from rfl, ri 4 (by decide)]
      exact y2
theorem h_thrown : SpE S m_X12_thrown 12 [.ref 420] (hp I L w1 w2 t) (some (.int (I 420 0))) (hp I L w1 w2 t) := by
  refine SpE_of ok_X12_thrown rfl rfl ?_
  show AW S m_X12_thrown 12 _ _ 0 0 0 [some (.ref 420)] [] (hp I L w1 w2 t)
  refine a_l0 rfl rfl rfl ?_
  refine a_geti rfl gfX12_3_12 rfl ?_
  exact a_iret rfl rfl ⟨rfl, rfl⟩
/-- both tapes hold the same, bytes; the readers' bounds are what they were made -/
def Tp (I : Nat → Nat → Int32) : Prop := I 426 = I 202 ∧ BtT (I 202) ∧ I 203 1 = 14 ∧ I 220 1 = 12
theorem Tp.eq {J : Nat → Nat → Int32} (h : Tp I) (e6 : J 426 = I 426) (e2 : J 202 = I 202) (a : J 203 1 = I 203 1) (b : J 220 1 = I 220 1) : Tp J := ⟨e6.trans (h.1.trans e2.symm), by rw [e2]; exact h.2.1, a.trans h.2.2.1, b.trans h.2.2.2⟩
theorem Tp.m {J : Nat → Nat → Int32} (h : Tp I) (f : Mt I J) : Tp J := h.eq (f.1 426 (by decide)) f.2.2.2.2.1 f.2.2.2.2.2.1 f.2.2.2.2.2.2
theorem Tp.r {J : Nat → Nat → Int32} (h : Tp I) (g : ∀ q, (q < 420 ∨ q = 426) → J q = I q) : Tp J := h.eq (g 426 (Or.inr rfl)) (g 202 (by decide)) (by rw [g 203 (by decide)]) (by rw [g 220 (by decide)])
theorem Tp.f {J : Nat → Nat → Int32} (h : Tp I) (g : ∀ q, q ≠ 201 → q ≠ 420 → J q = I q) : Tp J := h.eq (g 426 (by decide) (by decide)) (g 202 (by decide) (by decide)) (by rw [g 203 (by decide) (by decide)]) (by rw [g 220 (by decide) (by decide)])
end T79k
end
section
/-! ===== the class's tokens of the street's reader (printed by program) ===== -/
section T79l
variable {S : aS} {I : Nat → Nat → Int32} {L : Nat → Nat → Int64} {w1 w2 t : Nat} {e n j b : Nat} {T : Nat → Int32}
set_option maxRecDepth 100000
def opHs (I : Nat → Nat → Int32) (n : Nat) (x y : Int32) : Nat → Nat → Int32 := up2 (up2 (up2 (up2 I 205 n x) 206 n y) 207 n y) 204 4 (nI (n + 1))
theorem s_open (h4 : I 204 4 = nI n) (hn : n < 401) {x y : Int32} : SpE S m_X9_open 13 [.ref 204, .int x, .int y] (hp I L w1 w2 t) none (hp (opHs I n x y) L w1 w2 t) := by
  refine SpE_of ok_X9_open rfl rfl ?_
  show AW S m_X9_open 13 _ _ 0 0 0 [some (.ref 204), some (.int x), some (.int y)] [] (hp I L w1 w2 t)
  refine a_l0 rfl rfl rfl ?_
  refine a_getq rfl gfX9_9_9 rfl (rfl) ?_
  refine a_l0 rfl rfl rfl ?_
  refine a_getiv (v := nI n) rfl gfX9_24_9 rfl (h4) ?_
  refine a_l1 rfl rfl rfl ?_
  refine a_eSN0 rfl lX9_44 mo_X11_setAt (sp_X11_setAt rfl) rfl rfl rfl rfl ?_
  rw [setF_nI hn (by decide)]
  refine a_l0 rfl rfl rfl ?_
  refine a_getq rfl gfX9_15_9 rfl (rfl) ?_
  refine a_l0 rfl rfl rfl ?_
  refine a_getiv (v := nI n) rfl gfX9_24_9 rfl ((congrFun (up2_row (by decide)) 4).trans h4) ?_
  refine a_l2 rfl rfl rfl ?_
  refine a_eSN0 rfl lX9_44 mo_X11_setAt (sp_X11_setAt rfl) rfl rfl rfl rfl ?_
  rw [setF_nI hn (by decide)]
  refine a_l0 rfl rfl rfl ?_
  refine a_getq rfl gfX9_18_9 rfl (rfl) ?_
  refine a_l0 rfl rfl rfl ?_
  refine a_getiv (v := nI n) rfl gfX9_24_9 rfl ((congrFun (up2_row (by decide)) 4).trans ((congrFun (up2_row (by decide)) 4).trans h4)) ?_
  refine a_l2 rfl rfl rfl ?_
  refine a_eSN0 rfl lX9_44 mo_X11_setAt (sp_X11_setAt rfl) rfl rfl rfl rfl ?_
  rw [setF_nI hn (by decide)]
  refine a_l0 rfl rfl rfl ?_
  refine a_s rfl rfl ?_
  refine a_getiv (v := nI n) rfl gfX9_24_9 rfl ((congrFun (up2_row (by decide)) 4).trans ((congrFun (up2_row (by decide)) 4).trans ((congrFun (up2_row (by decide)) 4).trans h4))) ?_
  refine a_s rfl rfl ?_
  refine a_s rfl rfl ?_
  refine a_top (y := nI (n + 1)) ((nI_succ n).symm) ?_
  refine a_puti rfl pfX9_24_9 rfl ?_
  exact a_vret rfl rfl ⟨rfl, rfl⟩
def TkJs (I : Nat → Nat → Int32) (e j b : Nat) : Prop := I 205 j = nI (kd (I 202) e b) ∧ I 206 j = nI b ∧ I 207 j = nI (en (I 202) e b)
theorem s_isText (hw : WdS S) (he : I 201 1 = nI e) (h4 : e ≤ 400) (hbt : BtT (I 202)) (hj : j < 401) (hb : b < e) (hk : kd (I 202) e b = 1) (hT : TkJs I e j b) {k : Nat} (hk3 : k < 27) : SpE S m_X9_isText 16 [.ref 204, .ref 201, .int (nI j), .ref (130 + k)] (hp I L w1 w2 t) (some (.int (bI (isW (I 202) b (en (I 202) e b - b) k)))) (hp I L w1 w2 t) := by
  have h1 := en_ge (T := I 202) (e := e) (b := b)
  have h2 := en_le (T := I 202) (Nat.le_of_lt hb)
  have h3 := wLen_lt k hk3
  obtain ⟨-, t2, t3⟩ := hT
  refine SpE_of ok_X9_isText rfl rfl ?_
  show AW S m_X9_isText 16 _ _ 0 0 0 [some (.ref 204), some (.ref 201), some (.int (nI j)), some (.ref (130 + k)), none, none] [] (hp I L w1 w2 t)
  refine a_l0 rfl rfl rfl ?_
  refine a_getq rfl gfX9_15_9 rfl (rfl) ?_
  refine a_l2 rfl rfl rfl ?_
  refine a_eSN1 rfl lX9_58 mo_X11_at (sp_X11_at rfl) rfl rfl rfl rfl ?_
  refine a_top (y := nI b) ((atF_nI hj (by decide)).trans t2) ?_
  refine a_s4 rfl rfl rfl rfl rfl rfl ?_
  refine a_l0 rfl rfl rfl ?_
  refine a_getq rfl gfX9_18_9 rfl (rfl) ?_
  refine a_l2 rfl rfl rfl ?_
  refine a_eSN1 rfl lX9_58 mo_X11_at (sp_X11_at rfl) rfl rfl rfl rfl ?_
  refine a_top (y := nI (en (I 202) e b)) ((atF_nI hj (by decide)).trans t3) ?_
  refine a_l4 rfl rfl rfl ?_
  refine a_s rfl rfl ?_
  refine a_top (y := nI (en (I 202) e b - b)) (nI_sub h1) ?_
  refine a_l3 rfl rfl rfl ?_
  refine a_eK1 rfl lX9_82 mo_J0_length_8abf5 (q_strlen hw hk3) rfl rfl rfl (hw.so hk3) rfl ?_
  refine a_ic_eq rfl (fun c => ?_) (fun c => ?_)
  rotate_left
  · refine a_s rfl rfl ?_
    refine a_zret rfl rfl rfl ⟨?_, rfl⟩
    rw [show isW (I 202) b (en (I 202) e b - b) k = false from decide_eq_false fun z => c (congrArg nI z.1)]
    rfl
  have hl : en (I 202) e b - b = wLen k := nI_inj (by omega) h3 c
  refine a_s rfl rfl ?_
  refine a_s5 rfl rfl rfl rfl rfl rfl ?_
  refine a_inv (n := wLen k) (fun m ls h => ∃ i, ls = [some (.ref 204), some (.ref 201), some (.int (nI j)), some (.ref (130 + k)), some (.int (nI b)), some (.int (nI i))] ∧ h = hp I L w1 w2 t ∧ i ≤ wLen k ∧ m = wLen k - i ∧ ∀ q, q < i → I 202 (b + q) = wC k q) ⟨0, rfl, rfl, Nat.zero_le _, rfl, fun q hq => absurd hq (Nat.not_lt_zero _)⟩ ?_
  rintro m _ _ ⟨i, rfl, rfl, hi, hm, hq⟩ ih
  refine a_l5 rfl rfl rfl ?_
  refine a_l3 rfl rfl rfl ?_
  refine a_eK1 rfl lX9_82 mo_J0_length_8abf5 (q_strlen hw hk3) rfl rfl rfl (hw.so hk3) rfl ?_
  refine a_ic_ge rfl (fun c2 => ?_) (fun c2 => ?_)
  · have hge := nI_ge_of c2 (by omega) h3
    refine a_s rfl rfl ?_
    refine a_zret rfl rfl rfl ⟨?_, rfl⟩
    rw [show isW (I 202) b (en (I 202) e b - b) k = true from decide_eq_true ⟨hl, fun q hq2 => hq q (by omega)⟩]
    rfl
  have hil : i < wLen k := nI_lt_of c2 (by omega) h3
  refine a_l1 rfl rfl rfl ?_
  refine a_l4 rfl rfl rfl ?_
  refine a_l5 rfl rfl rfl ?_
  refine a_s rfl rfl ?_
  refine a_top (y := nI (b + i)) (nI_addl b i) ?_
  refine a_eV1 rfl lX9_33 mo_X7_byteAt (f_byteAt he h4 (by omega)) rfl rfl rfl ⟨7, _, rfl, rfl, rfl⟩ rfl ?_
  have hbi : b + i < e := by omega
  refine a_top (y := I 202 (b + i) &&& 255) (if_pos hbi) ?_
  have hkc : kcF (I 202 (b + i)) = 1 := by
    rw [en_1 hk] at hl
    exact isK_kc (rn_all (T := I 202) (e := e) (k := 1) (p := b) (Nat.le_add_right _ _) (by omega))
  obtain ⟨x, hx, ex⟩ := hbt (b + i) (by omega)
  have e255 : I 202 (b + i) &&& 255 = I 202 (b + i) := by
    rw [ex] at hkc ⊢
    exact bt_lt x hx hkc
  refine a_top (y := I 202 (b + i)) (e255) ?_
  refine a_l3 rfl rfl rfl ?_
  refine a_l5 rfl rfl rfl ?_
  refine a_eK1 rfl lX9_87 mo_J0_charAt_5068e (q_charAt hw hk3 hil) rfl rfl rfl (hw.so hk3) rfl ?_
  refine a_ic_eq rfl (fun c3 => ?_) (fun c3 => ?_)
  · refine a_iv5 (y := nI (i + 1)) rfl rfl rfl ((nI_succ i).symm) ?_
    refine a_goto rfl ?_
    refine ih (wLen k - (i + 1)) _ _ (by omega) ⟨i + 1, rfl, rfl, by omega, rfl, fun q hq2 => ?_⟩
    by_cases c4 : q = i
    · rw [c4]
      exact c3
    · exact hq q (by omega)
  · refine a_s rfl rfl ?_
    refine a_zret rfl rfl rfl ⟨?_, rfl⟩
    rw [show isW (I 202) b (en (I 202) e b - b) k = false from decide_eq_false fun z => c3 (z.2 i hil)]
    rfl
theorem s_wordOf (hw : WdS S) (he : I 201 1 = nI e) (h4 : e ≤ 400) (hbt : BtT (I 202)) (hj : j < 401) (hb : b < e) (hk : kd (I 202) e b = 1) (hT : TkJs I e j b) : SpE S m_X9_wordOf 17 [.ref 204, .ref 201, .int (nI j)] (hp I L w1 w2 t) (some (.int (if wd (I 202) e b < 27 then nI (wd (I 202) e b) else -1))) (hp I L w1 w2 t) := by
  have hs := srA_all (isW (I 202) b (en (I 202) e b - b)) 27 0
  refine SpE_of ok_X9_wordOf rfl rfl ?_
  show AW S m_X9_wordOf 17 _ _ 0 0 0 [some (.ref 204), some (.ref 201), some (.int (nI j)), none, none] [] (hp I L w1 w2 t)
  refine a_s rfl rfl ?_
  refine a_s3 rfl rfl rfl rfl rfl rfl ?_
  refine a_inv (n := 27) (fun m ls h => ∃ i, ls = [some (.ref 204), some (.ref 201), some (.int (nI j)), some (.int (nI i)), none] ∧ h = hp I L w1 w2 t ∧ i ≤ 27 ∧ m = 27 - i ∧ i ≤ wd (I 202) e b) ⟨0, rfl, rfl, Nat.zero_le _, rfl, Nat.zero_le _⟩ ?_
  rintro m _ _ ⟨i, rfl, rfl, hi, hm, hq⟩ ih
  refine a_l3 rfl rfl rfl ?_
  refine a_gets rfl (inC4 (i := 0) rfl rfl) hw.al ?_
  refine a_lenc rfl hw.ar rfl ?_
  refine a_ic_ge rfl (fun c2 => ?_) (fun c2 => ?_)
  · have hge := nI_ge_of (b := 27) c2 (by omega) (by decide)
    refine a_s rfl rfl ?_
    refine a_iret rfl rfl ⟨?_, rfl⟩
    rw [if_neg (by omega)]
  have hil : i < 27 := nI_lt_of (b := 27) c2 (by omega) (by decide)
  refine a_gets rfl (inC4 (i := 0) rfl rfl) hw.al ?_
  refine a_l3 rfl rfl rfl ?_
  refine a_aaldc rfl hw.ar rfl (inI_nI hil (by decide)) ?_
  refine a_pop1 (st := [.ref (100 + i)]) (by rw [nI_clamp (by omega)]) ?_
  refine a_s4 rfl rfl rfl rfl rfl rfl ?_
  refine a_l4 rfl rfl rfl ?_
  refine a_ifnull_f rfl ?_
  refine a_l0 rfl rfl rfl ?_
  refine a_l1 rfl rfl rfl ?_
  refine a_l2 rfl rfl rfl ?_
  refine a_l4 rfl rfl rfl ?_
  refine a_getc rfl (inC10 (i := 50) rfl rfl) (hw.tx hil) ?_
  refine a_eV1 rfl lX9_78 mo_X9_isText (s_isText hw he h4 hbt hj hb hk hT hil) rfl rfl rfl ⟨9, _, rfl, rfl, rfl⟩ rfl ?_
  cases c3 : isW (I 202) b (en (I 202) e b - b) i with
  | true =>
    refine a_if_eq rfl (fun c => absurd c (by decide)) (fun _ => ?_)
    refine a_l3 rfl rfl rfl ?_
    refine a_iret rfl rfl ⟨?_, rfl⟩
    rw [wd_eq hil c3, if_pos hil]
  | false =>
    refine a_if_eq rfl (fun _ => ?_) (fun c => absurd rfl c)
    refine a_iv3 (y := nI (i + 1)) rfl rfl rfl ((nI_succ i).symm) ?_
    refine a_goto rfl ?_
    refine a_less (ih (27 - (i + 1)) _ _ (by omega) ⟨i + 1, rfl, rfl, by omega, rfl, ?_⟩) ⟨rfl, rfl, rfl, rfl, trivial⟩
    rcases Nat.lt_or_ge (wd (I 202) e b) (i + 1) with z | z
    · exfalso
      have hwi : wd (I 202) e b = i := by omega
      have := wd_is (T := I 202) (e := e) (b := b) (by omega)
      rw [hwi, c3] at this
      cases this
    · exact z
theorem s_numberOf (he : I 201 1 = nI e) (h4 : e ≤ 400) (hbt : BtT (I 202)) (hj : j < 401) (hb : b < e) (hk : kd (I 202) e b = 2) (hT : TkJs I e j b) : SpE S m_X9_numberOf 13 [.ref 204, .ref 201, .int (nI j)] (hp I L w1 w2 t) (some (.int (if 3 < en (I 202) e b - b then -1 else nuF (I 202) b (en (I 202) e b - b)))) (hp I L w1 w2 t) := by
  have h1 := en_ge (T := I 202) (e := e) (b := b)
  have h2 := en_le (T := I 202) (Nat.le_of_lt hb)
  obtain ⟨-, t2, t3⟩ := hT
  refine SpE_of ok_X9_numberOf rfl rfl ?_
  show AW S m_X9_numberOf 13 _ _ 0 0 0 [some (.ref 204), some (.ref 201), some (.int (nI j)), none, none, none, none] [] (hp I L w1 w2 t)
  refine a_l0 rfl rfl rfl ?_
  refine a_getq rfl gfX9_15_9 rfl (rfl) ?_
  refine a_l2 rfl rfl rfl ?_
  refine a_eSN1 rfl lX9_58 mo_X11_at (sp_X11_at rfl) rfl rfl rfl rfl ?_
  refine a_top (y := nI b) ((atF_nI hj (by decide)).trans t2) ?_
  refine a_s3 rfl rfl rfl rfl rfl rfl ?_
  refine a_l0 rfl rfl rfl ?_
  refine a_getq rfl gfX9_18_9 rfl (rfl) ?_
  refine a_l2 rfl rfl rfl ?_
  refine a_eSN1 rfl lX9_58 mo_X11_at (sp_X11_at rfl) rfl rfl rfl rfl ?_
  refine a_top (y := nI (en (I 202) e b)) ((atF_nI hj (by decide)).trans t3) ?_
  refine a_s4 rfl rfl rfl rfl rfl rfl ?_
  refine a_l4 rfl rfl rfl ?_
  refine a_l3 rfl rfl rfl ?_
  refine a_s rfl rfl ?_
  refine a_top (y := nI (en (I 202) e b - b)) (nI_sub h1) ?_
  refine a_s rfl rfl ?_
  refine a_ic_le rfl (fun c => ?_) (fun c => ?_)
  rotate_left
  · refine a_s rfl rfl ?_
    refine a_iret rfl rfl ⟨?_, rfl⟩
    rw [if_pos (Nat.not_le.mp fun z => c (nI_leu (j := 3) z (by decide)))]
  have hle : ¬ 3 < en (I 202) e b - b := fun z => absurd (nI_ltu (n := 3) z (by omega)) (Int32.not_lt.mpr c)
  refine a_s rfl rfl ?_
  refine a_s5 rfl rfl rfl rfl rfl rfl ?_
  refine a_l3 rfl rfl rfl ?_
  refine a_s6 rfl rfl rfl rfl rfl rfl ?_
  refine a_inv (n := en (I 202) e b - b) (fun m ls h => ∃ i, ls = [some (.ref 204), some (.ref 201), some (.int (nI j)), some (.int (nI b)), some (.int (nI (en (I 202) e b))), some (.int (nuF (I 202) b i)), some (.int (nI (b + i)))] ∧ h = hp I L w1 w2 t ∧ b + i ≤ en (I 202) e b ∧ m = en (I 202) e b - b - i) ⟨0, rfl, rfl, h1, rfl⟩ ?_
  rintro m _ _ ⟨i, rfl, rfl, hi, hm⟩ ih
  refine a_l6 rfl rfl rfl ?_
  refine a_l4 rfl rfl rfl ?_
  refine a_ic_ge rfl (fun c2 => ?_) (fun c2 => ?_)
  · have hge := nI_ge_of c2 (by omega) (by omega)
    refine a_l5 rfl rfl rfl ?_
    refine a_iret rfl rfl ⟨?_, rfl⟩
    rw [if_neg hle, show en (I 202) e b - b = i by omega]
  have hil : b + i < en (I 202) e b := nI_lt_of c2 (by omega) (by omega)
  refine a_l5 rfl rfl rfl ?_
  refine a_s rfl rfl ?_
  refine a_s rfl rfl ?_
  refine a_l1 rfl rfl rfl ?_
  refine a_l6 rfl rfl rfl ?_
  refine a_eV1 rfl lX9_33 mo_X7_byteAt (f_byteAt he h4 (by omega)) rfl rfl rfl ⟨7, _, rfl, rfl, rfl⟩ rfl ?_
  refine a_top (y := I 202 (b + i) &&& 255) (if_pos (by omega)) ?_
  have hkc : kcF (I 202 (b + i)) = 2 := by
    rw [en_2 hk] at hil
    exact isK_kc (rn_all (T := I 202) (e := e) (k := 2) (p := b) (Nat.le_add_right _ _) hil)
  obtain ⟨x, hx, ex⟩ := hbt (b + i) (by omega)
  have e255 : I 202 (b + i) &&& 255 = I 202 (b + i) := by
    rw [ex] at hkc ⊢
    exact (bt_dg x hx hkc).1
  refine a_top (y := I 202 (b + i)) (e255) ?_
  refine a_s rfl rfl ?_
  refine a_s rfl rfl ?_
  refine a_s rfl rfl ?_
  refine a_s5 rfl rfl rfl rfl rfl rfl ?_
  refine a_iv6 (y := nI (b + (i + 1))) rfl rfl rfl ((nI_succ (b + i)).symm) ?_
  refine a_goto rfl ?_
  exact ih (en (I 202) e b - b - (i + 1)) _ _ (by omega) ⟨i + 1, rfl, rfl, by omega, rfl⟩
theorem s_valueOf (hw : WdS S) (he : I 201 1 = nI e) (h4 : e ≤ 400) (hbt : BtT (I 202)) (hj : j < 401) (hbe : b ≤ e) (hnb : kd (I 202) e b ≠ 4) (hT : TkJs I e j b) : SpE S m_X9_valueOf 18 [.ref 204, .ref 201, .int (nI j)] (hp I L w1 w2 t) (some (.int (vl (I 202) e b))) (hp I L w1 w2 t) := by
  refine SpE_of ok_X9_valueOf rfl rfl ?_
  show AW S m_X9_valueOf 18 _ _ 0 0 0 [some (.ref 204), some (.ref 201), some (.int (nI j))] [] (hp I L w1 w2 t)
  refine a_l0 rfl rfl rfl ?_
  refine a_getq rfl gfX9_9_9 rfl (rfl) ?_
  refine a_l2 rfl rfl rfl ?_
  refine a_eSN1 rfl lX9_58 mo_X11_at (sp_X11_at rfl) rfl rfl rfl rfl ?_
  refine a_top (y := nI (kd (I 202) e b)) ((atF_nI hj (by decide)).trans hT.1) ?_
  have hk5 : kd (I 202) e b < 5 := by
    by_cases c : b < e
    · rw [kd_lt c]
      rcases kc_cases (I 202 b) with z | z | z | z <;> omega
    · rw [kd_ge c]
      omega
  have hti : (nI (kd (I 202) e b)).toInt = (kd (I 202) e b : Int) := nI_toInt (by omega)
  refine a_lsw2 rfl (by decide) (by decide) (fun hx => ?_) (fun hx => ?_) (fun hx hx2 => ?_)
  · refine a_pc (pc' := 36) (by decide) ?_
    have hk : kd (I 202) e b = 1 := by rw [hti] at hx; omega
    refine a_l0 rfl rfl rfl ?_
    refine a_l1 rfl rfl rfl ?_
    refine a_l2 rfl rfl rfl ?_
    refine a_eV1 rfl lX9_62 mo_X9_wordOf (s_wordOf hw he h4 hbt hj (kd_in (by rw [hk]; decide)) hk hT) rfl rfl rfl ⟨9, _, rfl, rfl, rfl⟩ rfl ?_
    refine a_iret rfl rfl ⟨?_, rfl⟩
    rw [vl_1 hk]
  · refine a_pc (pc' := 43) (by decide) ?_
    have hk : kd (I 202) e b = 2 := by rw [hti] at hx; omega
    refine a_l0 rfl rfl rfl ?_
    refine a_l1 rfl rfl rfl ?_
    refine a_l2 rfl rfl rfl ?_
    refine a_eV1 rfl lX9_65 mo_X9_numberOf (s_numberOf he h4 hbt hj (kd_in (by rw [hk]; decide)) hk hT) rfl rfl rfl ⟨9, _, rfl, rfl, rfl⟩ rfl ?_
    refine a_iret rfl rfl ⟨?_, rfl⟩
    rw [vl_2 hk]
  · refine a_pc (pc' := 50) (by decide) ?_
    rw [hti] at hx hx2
    refine a_l1 rfl rfl rfl ?_
    refine a_l0 rfl rfl rfl ?_
    refine a_getq rfl gfX9_15_9 rfl (rfl) ?_
    refine a_l2 rfl rfl rfl ?_
    refine a_eSN1 rfl lX9_58 mo_X11_at (sp_X11_at rfl) rfl rfl rfl rfl ?_
    refine a_top (y := nI b) ((atF_nI hj (by decide)).trans hT.2.1) ?_
    refine a_eV1 rfl lX9_33 mo_X7_byteAt (f_byteAt he h4 (by omega)) rfl rfl rfl ⟨7, _, rfl, rfl, rfl⟩ rfl ?_
    refine a_iret rfl rfl ⟨?_, rfl⟩
    by_cases c : b < e
    · have hk : kd (I 202) e b = 3 := by
        have := kd_lt (T := I 202) c
        rcases kc_cases (I 202 b) with z | z | z | z <;> omega
      rw [vl_3 hk, if_pos c]
    · rw [vl_0 (kd_ge c), if_neg c]
def Fts (I J : Nat → Nat → Int32) : Prop := ∀ q, ¬ (204 ≤ q ∧ q ≤ 208) → J q = I q
theorem Fts.rf : Fts I I := fun _ _ => rfl
theorem Fts.tr {J K : Nat → Nat → Int32} (h : Fts I J) (h2 : Fts J K) : Fts I K := fun q hq => (h2 q hq).trans (h q hq)
theorem Fts.up {J : Nat → Nat → Int32} {p k : Nat} {v : Int32} (h : Fts I J) (hp     : 204 ≤ p ∧ p ≤ 208) : Fts I (up2 J p k v) := fun q hq => by
  rw [up2_row (by intro z; subst z; exact hq hp)]
  exact h q hq
def TkAs (T : Nat → Int32) (e n : Nat) (I : Nat → Nat → Int32) : Prop := n ≤ 400 ∧ ¬ bg T e n < e ∧ I 204 4 = nI (n + 1) ∧ ∀ j, j ≤ n → I 205 j = nI (kd T e (bg T e j)) ∧ I 206 j = nI (bg T e j) ∧ I 208 j = vl T e (bg T e j)
def Ats (T : Nat → Int32) (e b w : Nat) (I : Nat → Nat → Int32) : Prop := (∃ n j, TkAs T e n I ∧ j ≤ n ∧ I 204 5 = nI j ∧ b = bg T e j) ∧ I 204 6 = nI (kd T e b) ∧ I 204 7 = nI b ∧ I 204 8 = vl T e b ∧ w = wrF T e b
theorem Ats.ki {T : Nat → Int32} {w : Nat} (h : Ats T e b w I) : I 204 6 = nI (kd T e b) := h.2.1
theorem Ats.be {T : Nat → Int32} {w : Nat} (h : Ats T e b w I) : I 204 7 = nI b := h.2.2.1
theorem Ats.va {T : Nat → Int32} {w : Nat} (h : Ats T e b w I) : I 204 8 = vl T e b := h.2.2.2.1
theorem Ats.wo {T : Nat → Int32} {w : Nat} (h : Ats T e b w I) : w = wrF T e b := h.2.2.2.2
theorem Ats.le {T : Nat → Int32} {w : Nat} (h : Ats T e b w I) : b ≤ e := by
  obtain ⟨⟨n, j, -, -, -, rfl⟩, -⟩ := h
  exact bg_le j
theorem Ats.sk {T : Nat → Int32} {w : Nat} (h : Ats T e b w I) : rn T e 4 b = b := by
  obtain ⟨⟨n, j, -, -, -, rfl⟩, -⟩ := h
  exact bg_sk j
theorem Ats.eq {T : Nat → Int32} {w : Nat} {J : Nat → Nat → Int32} (h : Ats T e b w I) (f : ∀ q, 204 ≤ q → q ≤ 208 → J q = I q) : Ats T e b w J := by
  obtain ⟨⟨n, j, ⟨a1, a2, a3, a4⟩, h2, h3, h4⟩, h5, h6, h7, h8⟩ := h
  have e1 := f 204 (by decide) (by decide)
  refine ⟨⟨n, j, ⟨a1, a2, by rw [e1]; exact a3, fun i hi => ?_⟩, h2, by rw [e1]; exact h3, h4⟩, by rw [e1]; exact h5, by rw [e1]; exact h6, by rw [e1]; exact h7, h8⟩
  rw [f 205 (by decide) (by decide), f 206 (by decide) (by decide), f 208 (by decide) (by decide)]
  exact a4 i hi
theorem s_next {T : Nat → Int32} (hw : WdS S) {n i j : Nat} (hT : TkAs T e n I) (h5 : I 204 5 + 1 = nI i) (hij : j = if i ≤ n then i else n) (hi : i ≤ 401) : Sp S m_X9_next 13 0 0 [.ref 204] (hp I L w1 w2 t) (fun v h' => v = none ∧ ∃ J w, h' = hp J L w w2 t ∧ Ats T e (bg T e j) w J ∧ ∀ q, q ≠ 204 → J q = I q) nX := by
  obtain ⟨a1, a2, a3, a4⟩ := id hT
  have hjn : j ≤ n := by
    rw [hij]
    by_cases c : i ≤ n
    · rw [if_pos c]
      exact c
    · rw [if_neg c]
      exact Nat.le_refl n
  obtain ⟨b1, b2, b3⟩ := a4 j hjn
  refine Sp_of ok_X9_next rfl rfl ?_
  show AW S m_X9_next 13 _ _ 0 0 0 [some (.ref 204)] [] (hp I L w1 w2 t)
  refine a_l0 rfl rfl rfl ?_
  refine a_l0 rfl rfl rfl ?_
  refine a_geti rfl gfX9_52_9 rfl ?_
  refine a_s rfl rfl ?_
  refine a_s rfl rfl ?_
  refine a_top (y := nI i) (h5) ?_
  refine a_l0 rfl rfl rfl ?_
  refine a_getiv (v := nI (n + 1)) rfl gfX9_24_9 rfl (a3) ?_
  refine a_s rfl rfl ?_
  refine a_s rfl rfl ?_
  refine a_top (y := nI n) (nI_dec n) ?_
  refine a_min rfl lX9_91 mj_min rfl rfl ?_
  refine a_top (y := nI j) ((min_nI (by omega) (by omega)).trans (congrArg nI hij.symm)) ?_
  refine a_puti rfl pfX9_52_9 rfl ?_
  refine a_l0 rfl rfl rfl ?_
  refine a_l0 rfl rfl rfl ?_
  refine a_getq rfl gfX9_9_9 rfl (rfl) ?_
  refine a_l0 rfl rfl rfl ?_
  refine a_getiv (v := nI j) rfl gfX9_52_9 rfl (up2_at) ?_
  refine a_eSN1 rfl lX9_58 mo_X11_at (sp_X11_at rfl) rfl rfl rfl rfl ?_
  refine a_top (y := nI (kd T e (bg T e j))) ((atF_nI (by omega) (by decide)).trans ((congrFun (up2_row (by decide)) j).trans b1)) ?_
  refine a_puti rfl pfX9_97_9 rfl ?_
  refine a_l0 rfl rfl rfl ?_
  refine a_l0 rfl rfl rfl ?_
  refine a_getq rfl gfX9_15_9 rfl (rfl) ?_
  refine a_l0 rfl rfl rfl ?_
  refine a_getiv (v := nI j) rfl gfX9_52_9 rfl ((up2_ne (Or.inr (by decide))).trans up2_at) ?_
  refine a_eSN1 rfl lX9_58 mo_X11_at (sp_X11_at rfl) rfl rfl rfl rfl ?_
  refine a_top (y := nI (bg T e j)) ((atF_nI (by omega) (by decide)).trans ((congrFun (up2_row (by decide)) j).trans ((congrFun (up2_row (by decide)) j).trans b2))) ?_
  refine a_puti rfl pfX9_100_9 rfl ?_
  refine a_l0 rfl rfl rfl ?_
  refine a_l0 rfl rfl rfl ?_
  refine a_getq rfl gfX9_21_9 rfl (rfl) ?_
  refine a_l0 rfl rfl rfl ?_
  refine a_getiv (v := nI j) rfl gfX9_52_9 rfl ((up2_ne (Or.inr (by decide))).trans ((up2_ne (Or.inr (by decide))).trans up2_at)) ?_
  refine a_eSN1 rfl lX9_58 mo_X11_at (sp_X11_at rfl) rfl rfl rfl rfl ?_
  refine a_top (y := vl T e (bg T e j)) ((atF_nI (by omega) (by decide)).trans ((congrFun (up2_row (by decide)) j).trans ((congrFun (up2_row (by decide)) j).trans ((congrFun (up2_row (by decide)) j).trans b3)))) ?_
  refine a_puti rfl pfX9_103_9 rfl ?_
  refine a_ren (P := fun J => (∀ q, q ≠ 204 → J q = I q) ∧ J 204 4 = nI (n + 1) ∧ J 204 5 = nI j ∧ J 204 6 = nI (kd T e (bg T e j)) ∧ J 204 7 = nI (bg T e j) ∧ J 204 8 = vl T e (bg T e j)) ⟨fun q hq => ?_, ?_, ?_, ?_, ?_, up2_at⟩ (fun J hJ => ?_)
  · rw [up2_row hq, up2_row hq, up2_row hq, up2_row hq]
  · exact (up2_ne (Or.inr (by decide))).trans ((up2_ne (Or.inr (by decide))).trans ((up2_ne (Or.inr (by decide))).trans ((up2_ne (Or.inr (by decide))).trans a3)))
  · exact (up2_ne (Or.inr (by decide))).trans ((up2_ne (Or.inr (by decide))).trans ((up2_ne (Or.inr (by decide))).trans up2_at))
  · exact (up2_ne (Or.inr (by decide))).trans ((up2_ne (Or.inr (by decide))).trans up2_at)
  · exact (up2_ne (Or.inr (by decide))).trans up2_at
  obtain ⟨f, g4, g5, g6, g7, g8⟩ := hJ
  have hTJ : TkAs T e n J := ⟨a1, a2, g4, fun i hi => by
    rw [f 205 (by decide), f 206 (by decide), f 208 (by decide)]
    exact a4 i hi⟩
  have fin : ∀ q, q = wrF T e (bg T e j) → AW S m_X9_next 13 (fun v h' => v = none ∧ ∃ J w, h' = hp J L w w2 t ∧ Ats T e (bg T e j) w J ∧ ∀ q, q ≠ 204 → J q = I q) nX 0 0 103 [some (.ref 204)] [rv q, .ref 204] (hp J L w1 w2 t) := by
    intro q hq
    refine a_putw1 (q := q) rfl pfX9_106_9 ?_
    exact a_vret rfl rfl ⟨rfl, J, q, rfl, ⟨⟨n, j, hTJ, hjn, g5, rfl⟩, g6, g7, g8, hq⟩, f⟩
  refine a_l0 rfl rfl rfl ?_
  refine a_l0 rfl rfl rfl ?_
  refine a_getiv (v := nI (kd T e (bg T e j))) rfl gfX9_97_9 rfl (g6) ?_
  refine a_s rfl rfl ?_
  refine a_ic_ne rfl (fun c => ?_) (fun c => ?_)
  · refine a_s rfl rfl ?_
    exact fin 0 (if_neg (fun z => c (congrArg nI z.1))).symm
  have hk : kd T e (bg T e j) = 1 := nI_inj (a := kd T e (bg T e j)) (b := 1) (by have := kd_4 (T := T) (e := e) (b := bg T e j) rfl; omega) (by decide) c
  refine a_l0 rfl rfl rfl ?_
  refine a_getiv (v := vl T e (bg T e j)) rfl gfX9_103_9 rfl (g8) ?_
  rcases vl_w hk with ⟨v1, v2⟩ | ⟨v1, v2, v3⟩
  · refine a_if_lt rfl (fun _ => ?_) (fun c => absurd v1 c)
    refine a_s rfl rfl ?_
    exact fin 0 (if_neg (fun z => v2 z.2)).symm
  · refine a_if_lt rfl (fun c => absurd c v1) (fun _ => ?_)
    refine a_l0 rfl rfl rfl ?_
    refine a_getiv (v := nI (wd T e (bg T e j))) rfl gfX9_103_9 rfl (g8.trans v3) ?_
    refine a_gets rfl (inC4 (i := 0) rfl rfl) hw.al ?_
    refine a_lenc rfl hw.ar rfl ?_
    refine a_ic_ge rfl (fun c => absurd c (nI_ge (b := 27) v2 (by decide))) (fun _ => ?_)
    refine a_gets rfl (inC4 (i := 0) rfl rfl) hw.al ?_
    refine a_l0 rfl rfl rfl ?_
    refine a_getiv (v := nI (wd T e (bg T e j))) rfl gfX9_103_9 rfl (g8.trans v3) ?_
    refine a_aaldc rfl hw.ar rfl (inI_nI v2 (by decide)) ?_
    refine a_pop1 (st := [rv (100 + wd T e (bg T e j) + 1), .ref 204]) (by rw [nI_clamp (by omega)]; rfl) ?_
    refine a_goto rfl ?_
    exact fin _ (if_pos ⟨hk, v2⟩).symm
def SIs (T : Nat → Int32) (e n i la : Nat) (I : Nat → Nat → Int32) : Prop := n ≤ i ∧ i ≤ e ∧ I 204 4 = nI n ∧ (∀ j, j < n → bg T e j < e ∧ I 205 j = nI (kd T e (bg T e j)) ∧ I 206 j = nI (bg T e j)) ∧
  (((la = 4 ∨ la = 3) ∧ (∀ j, j < n → I 207 j = nI (en T e (bg T e j))) ∧ bg T e n = rn T e 4 i) ∨
   ∃ m, n = m + 1 ∧ (la = 1 ∨ la = 2) ∧ kd T e (bg T e m) = la ∧ (∀ j, j < m → I 207 j = nI (en T e (bg T e j))) ∧ I 207 m = nI i ∧ en T e (bg T e m) = rn T e la i)
theorem SIs.cl {T : Nat → Int32} {i la : Nat} (h : SIs T e n i la I) (hne : (la = 4 ∨ la = 3) ∨ ¬ isK T e la i = true) : (∀ j, j < n → I 207 j = nI (en T e (bg T e j))) ∧ bg T e n = rn T e 4 i := by
  obtain ⟨-, -, -, -, ⟨-, h2, h3⟩ | ⟨m, rfl, h2, h3, h4, h5, h6⟩⟩ := h
  · exact ⟨h2, h3⟩
  · have hne : ¬ isK T e la i = true := hne.resolve_left (by omega)
    have e1 : en T e (bg T e m) = i := h6.trans (rn_f (Bool.eq_false_iff.mpr hne))
    refine ⟨fun j hj => ?_, ?_⟩
    · by_cases c : j = m
      · rw [c, e1]
        exact h5
      · exact h4 j (by omega)
    · show rn T e 4 (en T e (bg T e m)) = _
      rw [e1]
theorem s_scan (hw : WdS S) (he : I 201 1 = nI e) (h4 : e ≤ 400) (hbt : BtT (I 202)) : Sp S m_X9_scan 19 0 0 [.ref 204, .ref 201] (hp I L w1 w2 t) (fun v h' => v = none ∧ ∃ J w, h' = hp J L w w2 t ∧ Ats (I 202) e (bg (I 202) e 0) w J ∧ Fts I J) nX := by
  refine Sp_of ok_X9_scan rfl rfl ?_
  show AW S m_X9_scan 19 _ _ 0 0 0 [some (.ref 204), some (.ref 201), none, none, none] [] (hp I L w1 w2 t)
  -- behind both loops
  have part2 : ∀ (n : Nat) (J : Nat → Nat → Int32), Fts I J → n ≤ e → J 204 4 = nI (n + 1) → ¬ bg (I 202) e n < e → (∀ j, j ≤ n → TkJs J e j (bg (I 202) e j)) → AW S m_X9_scan 19 (fun v h' => v = none ∧ ∃ J w, h' = hp J L w w2 t ∧ Ats (I 202) e (bg (I 202) e 0) w J ∧ Fts I J) nX 0 0 92 [some (.ref 204), some (.ref 201), none, none, none] [] (hp J L w1 w2 t) := by
    intro n J hF hne hs hend hall
    have hT2 : J 202 = I 202 := hF 202 (by omega)
    have he2 : J 201 1 = nI e := (congrFun (hF 201 (by omega)) 1).trans he
    refine a_s rfl rfl ?_
    refine a_s3 rfl rfl rfl rfl rfl rfl ?_
    refine a_inv (n := n + 1) (fun m ls h => ∃ q K, ls = [some (.ref 204), some (.ref 201), none, some (.int (nI q)), none] ∧ h = hp K L w1 w2 t ∧ q ≤ n + 1 ∧ m = n + 1 - q ∧ (∀ p, p ≠ 208 → K p = J p) ∧ ∀ j, j < q → K 208 j = vl (I 202) e (bg (I 202) e j)) ⟨0, J, rfl, rfl, Nat.zero_le _, rfl, fun _ _ => rfl, fun j hj => absurd hj (Nat.not_lt_zero _)⟩ ?_
    rintro m _ _ ⟨q, K, rfl, rfl, hq, hm, hK, hv5⟩ ih
    refine a_l3 rfl rfl rfl ?_
    refine a_l0 rfl rfl rfl ?_
    refine a_getiv (v := nI (n + 1)) rfl gfX9_24_9 rfl ((congrFun (hK 204 (by decide)) 4).trans hs) ?_
    refine a_ic_ge rfl (fun c => ?_) (fun c => ?_)
    · have hge := nI_ge_of c (by omega) (by omega)
      obtain rfl : q = n + 1 := by omega
      refine a_l0 rfl rfl rfl ?_
      refine a_s rfl rfl ?_
      refine a_puti rfl pfX9_52_9 rfl ?_
      refine a_l0 rfl rfl rfl ?_
      have hTA : TkAs (I 202) e n (up2 K 204 5 (-1)) := by
        refine ⟨by omega, hend, (up2_ne (Or.inr (by decide))).trans ((congrFun (hK 204 (by decide)) 4).trans hs), fun j hj => ?_⟩
        obtain ⟨z1, z2, z3⟩ := hall j hj
        rw [hT2] at z1
        rw [up2_row (by decide), up2_row (by decide), up2_row (by decide), hK 205 (by decide), hK 206 (by decide)]
        exact ⟨z1, z2, hv5 j (by omega)⟩
      refine a_gV rfl lX9_55 mo_X9_next (s_next (i := 0) (j := 0) hw hTA (by rw [up2_at]; rfl) rfl (by omega)) rfl rfl rfl ⟨9, _, rfl, rfl, rfl⟩ rfl (fun v' h' hv => ?_)
      obtain ⟨rfl, J2, w, rfl, hA, hf⟩ := hv
      refine a_vret rfl rfl ⟨rfl, J2, w, rfl, hA, fun p hp     => ?_⟩
      have p1 : p ≠ 204 := by omega
      have p2 : p ≠ 208 := by omega
      rw [hf p p1, up2_row p1, hK p p2]
      exact hF p hp
    · have hqn : q < n + 1 := nI_lt_of c (by omega) (by omega)
      refine a_l0 rfl rfl rfl ?_
      refine a_getq rfl gfX9_21_9 rfl (rfl) ?_
      refine a_l3 rfl rfl rfl ?_
      refine a_l0 rfl rfl rfl ?_
      refine a_l1 rfl rfl rfl ?_
      refine a_l3 rfl rfl rfl ?_
      have hKT : K 202 = I 202 := (hK 202 (by decide)).trans hT2
      have hTq : TkJs K e q (bg (I 202) e q) := by
        have := hall q (by omega)
        unfold TkJs at this ⊢
        rw [hK 205 (by decide), hK 206 (by decide), hK 207 (by decide), hK 202 (by decide)]
        exact this
      refine a_eV1 rfl lX9_48 mo_X9_valueOf (s_valueOf (b := bg (I 202) e q) hw ((congrFun (hK 201 (by decide)) 1).trans he2) h4 (by rw [hKT]; exact hbt) (by omega) (bg_le q) (by rw [hKT]; exact sk_kd (bg_sk q)) hTq) rfl rfl rfl ⟨9, _, rfl, rfl, rfl⟩ rfl ?_
      refine a_top (y := vl (I 202) e (bg (I 202) e q)) (by rw [hKT]) ?_
      refine a_eSN0 rfl lX9_44 mo_X11_setAt (sp_X11_setAt rfl) rfl rfl rfl rfl ?_
      rw [setF_nI (by omega) (by decide)]
      refine a_iv3 (y := nI (q + 1)) rfl rfl rfl ((nI_succ q).symm) ?_
      refine a_goto rfl ?_
      refine ih (n + 1 - (q + 1)) _ _ (by omega) ⟨q + 1, up2 K 208 q (vl (I 202) e (bg (I 202) e q)), rfl, rfl, by omega, rfl, fun p hp     => (up2_row hp).trans (hK p hp), fun j hj => ?_⟩
      by_cases cj : j = q
      · rw [cj]
        exact up2_at
      · exact (up2_ne (Or.inr cj)).trans (hv5 j (by omega))
  refine a_l0 rfl rfl rfl ?_
  refine a_s rfl rfl ?_
  refine a_puti rfl pfX9_24_9 rfl ?_
  refine a_s rfl rfl ?_
  refine a_s2 rfl rfl rfl rfl rfl rfl ?_
  refine a_s rfl rfl ?_
  refine a_s3 rfl rfl rfl rfl rfl rfl ?_
  refine a_inv (n := e) (fun m ls h => ∃ n i la J, ls = [some (.ref 204), some (.ref 201), some (.int (nI la)), some (.int (nI i)), none] ∧ h = hp J L w1 w2 t ∧ m = e - i ∧ Fts I J ∧ SIs (I 202) e n i la J) ⟨0, 0, 4, _, rfl, rfl, rfl, Fts.up Fts.rf (by omega), Nat.le_refl _, Nat.zero_le _, up2_at, fun j hj => absurd hj (Nat.not_lt_zero _), Or.inl ⟨Or.inl rfl, fun j hj => absurd hj (Nat.not_lt_zero _), rfl⟩⟩ ?_
  rintro m _ _ ⟨n, i, la, J, rfl, rfl, hm, hF, hSI⟩ ih
  have hT2 : J 202 = I 202 := hF 202 (by omega)
  have he2 : J 201 1 = nI e := (congrFun (hF 201 (by omega)) 1).trans he
  obtain ⟨s1, s2, s3, s4, s5⟩ := id hSI
  have hla : la < 5 := by
    rcases s5 with ⟨z | z, -⟩ | ⟨_, -, z | z, -⟩ <;> omega
  refine a_l3 rfl rfl rfl ?_
  refine a_l1 rfl rfl rfl ?_
  refine a_getiv (v := nI e) rfl gfX9_28_7 rfl (he2) ?_
  refine a_ic_ge rfl (fun c => ?_) (fun c => ?_)
  · have hge := nI_ge_of c (by omega) (by omega)
    obtain rfl : i = e := by omega
    obtain ⟨k1, k2⟩ := SIs.cl hSI (Or.inr fun z => absurd (isK_lt z) (Nat.lt_irrefl _))
    rw [rn_e (Nat.lt_irrefl _)] at k2
    refine a_l0 rfl rfl rfl ?_
    refine a_s rfl rfl ?_
    refine a_l1 rfl rfl rfl ?_
    refine a_getiv (v := nI i) rfl gfX9_28_7 rfl (he2) ?_
    refine a_eV0 rfl lX9_40 mo_X9_open (s_open s3 (by omega)) rfl rfl rfl ⟨9, _, rfl, rfl, rfl⟩ rfl ?_
    refine a_less (part2 n (opHs J n 0 (nI i)) (Fts.up (Fts.up (Fts.up (Fts.up hF (by omega)) (by omega)) (by omega)) (by omega)) (by omega) up2_at (by rw [k2]; exact Nat.lt_irrefl _) (fun j hj => ?_)) ⟨rfl, rfl, trivial⟩
    have r2 : ∀ q, opHs J n 0 (nI i) 205 q = up2 J 205 n 0 205 q := fun q => by
      unfold opHs
      rw [up2_row (by decide), up2_row (by decide), up2_row (by decide)]
    have r3 : ∀ q, opHs J n 0 (nI i) 206 q = up2 J 206 n (nI i) 206 q := fun q => by
      unfold opHs
      rw [up2_row (by decide), up2_row (by decide)]
      by_cases cq : q = n
      · rw [cq, up2_at, up2_at]
      · rw [up2_ne (Or.inr cq), up2_ne (Or.inr cq), up2_ne (Or.inr cq)]
    have r4 : ∀ q, opHs J n 0 (nI i) 207 q = up2 J 207 n (nI i) 207 q := fun q => by
      unfold opHs
      rw [up2_row (by decide)]
      by_cases cq : q = n
      · rw [cq, up2_at, up2_at]
      · rw [up2_ne (Or.inr cq), up2_ne (Or.inr cq), up2_ne (Or.inr cq), up2_ne (Or.inr cq)]
    have r0 : opHs J n 0 (nI i) 202 = I 202 := by
      unfold opHs
      rw [up2_row (by decide), up2_row (by decide), up2_row (by decide), up2_row (by decide)]
      exact hT2
    unfold TkJs
    rw [r0, r2, r3, r4]
    by_cases cj : j = n
    · rw [cj, up2_at, up2_at, up2_at, k2, kd_ge (Nat.lt_irrefl _), en_0 (Nat.lt_irrefl _)]
      exact ⟨nI_0.symm, rfl, rfl⟩
    · obtain ⟨z1, z2, z3⟩ := s4 j (by omega)
      rw [up2_ne (Or.inr cj), up2_ne (Or.inr cj), up2_ne (Or.inr cj)]
      exact ⟨z2, z3, k1 j (by omega)⟩
  have hie : i < e := nI_lt_of c (by omega) (by omega)
  refine a_l1 rfl rfl rfl ?_
  refine a_l3 rfl rfl rfl ?_
  refine a_eV1 rfl lX9_33 mo_X7_byteAt (f_byteAt he2 h4 (by omega)) rfl rfl rfl ⟨7, _, rfl, rfl, rfl⟩ rfl ?_
  refine a_top (y := I 202 i &&& 255) ((if_pos hie).trans (by rw [hT2])) ?_
  refine a_eS1 rfl lX9_37 mo_X9_kindOf f_kindOf rfl rfl rfl rfl ?_
  obtain ⟨x, hx, ex⟩ := hbt i (by omega)
  refine a_top (y := nI (kcF (I 202 i))) (by rw [ex, bt_kc x hx]) ?_
  refine a_s4 rfl rfl rfl rfl rfl rfl ?_
  have hkc := kc_cases (I 202 i)
  generalize hk0 : kcF (I 202 i) = kc at hkc
  have isK_of : ∀ k, isK (I 202) e k i = true ↔ kc = k := fun k => ⟨fun z => hk0.symm.trans (isK_kc z), fun z => isK_t hie (hk0.trans z)⟩
  -- the loop goes on
  have on : ∀ (n' : Nat) (K : Nat → Nat → Int32), Fts I K → SIs (I 202) e n' (i + 1) kc K → AW S m_X9_scan 19 (fun v h' => v = none ∧ ∃ J w, h' = hp J L w w2 t ∧ Ats (I 202) e (bg (I 202) e 0) w J ∧ Fts I J) nX 0 0 74 [some (.ref 204), some (.ref 201), some (.int (nI la)), some (.int (nI i)), some (.int (nI kc))] [] (hp K L w1 w2 t) := by
    intro n' K hFK hSK
    refine a_l4 rfl rfl rfl ?_
    refine a_s2 rfl rfl rfl rfl rfl rfl ?_
    refine a_iv3 (y := nI (i + 1)) rfl rfl rfl ((nI_succ i).symm) ?_
    refine a_goto rfl ?_
    have lt : e - (i + 1) < m := by rw [hm]; exact Nat.sub_lt_sub_left hie (Nat.lt_succ_self i)
    exact a_less (ih (e - (i + 1)) [some (.ref 204), some (.ref 201), some (.int (nI kc)), some (.int (nI (i + 1))), none] (hp K L w1 w2 t) lt ⟨n', i + 1, kc, K, rfl, rfl, rfl, hFK, hSK⟩) ⟨rfl, rfl, rfl, rfl, trivial⟩
  -- where the latest ends
  have k52 : ∀ (m : Nat) (K : Nat → Nat → Int32), kc ≠ 4 → m < 401 → K 204 4 = nI (m + 1) → Fts I K → SIs (I 202) e (m + 1) (i + 1) kc (up2 K 207 m (nI (i + 1))) → AW S m_X9_scan 19 (fun v h' => v = none ∧ ∃ J w, h' = hp J L w w2 t ∧ Ats (I 202) e (bg (I 202) e 0) w J ∧ Fts I J) nX 0 0 52 [some (.ref 204), some (.ref 201), some (.int (nI la)), some (.int (nI i)), some (.int (nI kc))] [] (hp K L w1 w2 t) := by
    intro m K h4 hm4 hK4 hFK hSK
    refine a_l4 rfl rfl rfl ?_
    refine a_s rfl rfl ?_
    refine a_ic_eq rfl (fun c => absurd (nI_inj (b := 4) (by omega) (by decide) c) h4) (fun _ => ?_)
    refine a_l0 rfl rfl rfl ?_
    refine a_getq rfl gfX9_18_9 rfl (rfl) ?_
    refine a_l0 rfl rfl rfl ?_
    refine a_getiv (v := nI (m + 1)) rfl gfX9_24_9 rfl (hK4) ?_
    refine a_s rfl rfl ?_
    refine a_s rfl rfl ?_
    refine a_top (y := nI m) (nI_dec m) ?_
    refine a_l3 rfl rfl rfl ?_
    refine a_s rfl rfl ?_
    refine a_s rfl rfl ?_
    refine a_top (y := nI (i + 1)) ((nI_succ i).symm) ?_
    refine a_eSN0 rfl lX9_44 mo_X11_setAt (sp_X11_setAt rfl) rfl rfl rfl rfl ?_
    rw [setF_nI hm4 (by decide)]
    exact on _ _ (Fts.up hFK (by omega)) hSK
  -- a new one begins here
  have k45 : kc ≠ 4 → ((la = 4 ∨ la = 3) ∨ kc ≠ la) → AW S m_X9_scan 19 (fun v h' => v = none ∧ ∃ J w, h' = hp J L w w2 t ∧ Ats (I 202) e (bg (I 202) e 0) w J ∧ Fts I J) nX 0 0 45 [some (.ref 204), some (.ref 201), some (.int (nI la)), some (.int (nI i)), some (.int (nI kc))] [] (hp J L w1 w2 t) := by
    intro n4 hne
    obtain ⟨k1, k2⟩ := SIs.cl hSI (hne.imp id fun z y => z ((isK_of la).mp y))
    have kb : bg (I 202) e n = i := k2.trans (rn_f (Bool.eq_false_iff.mpr fun z => n4 ((isK_of 4).mp z)))
    have kk : kd (I 202) e i = kc := (kd_lt hie).trans hk0
    refine a_l0 rfl rfl rfl ?_
    refine a_l4 rfl rfl rfl ?_
    refine a_l3 rfl rfl rfl ?_
    refine a_eV0 rfl lX9_40 mo_X9_open (s_open s3 (by omega)) rfl rfl rfl ⟨9, _, rfl, rfl, rfl⟩ rfl ?_
    refine k52 n _ n4 (by omega) up2_at (Fts.up (Fts.up (Fts.up (Fts.up hF (by omega)) (by omega)) (by omega)) (by omega)) ?_
    have r2 : ∀ q, up2 (opHs J n (nI kc) (nI i)) 207 n (nI (i + 1)) 205 q = up2 J 205 n (nI kc) 205 q := fun q => by
      unfold opHs
      rw [up2_row (by decide), up2_row (by decide), up2_row (by decide), up2_row (by decide)]
    have r3 : ∀ q, up2 (opHs J n (nI kc) (nI i)) 207 n (nI (i + 1)) 206 q = up2 J 206 n (nI i) 206 q := fun q => by
      unfold opHs
      rw [up2_row (by decide), up2_row (by decide), up2_row (by decide)]
      by_cases cq : q = n
      · rw [cq, up2_at, up2_at]
      · rw [up2_ne (Or.inr cq), up2_ne (Or.inr cq), up2_ne (Or.inr cq)]
    have r4 : ∀ q, q ≠ n → up2 (opHs J n (nI kc) (nI i)) 207 n (nI (i + 1)) 207 q = J 207 q := fun q hq => by
      rw [up2_ne (Or.inr hq)]
      unfold opHs
      rw [up2_row (by decide), up2_ne (Or.inr hq), up2_row (by decide), up2_row (by decide)]
    have s4' : ∀ j, j < n + 1 → bg (I 202) e j < e ∧ up2 (opHs J n (nI kc) (nI i)) 207 n (nI (i + 1)) 205 j = nI (kd (I 202) e (bg (I 202) e j)) ∧ up2 (opHs J n (nI kc) (nI i)) 207 n (nI (i + 1)) 206 j = nI (bg (I 202) e j) := fun j hj => by
      rw [r2, r3]
      by_cases cj : j = n
      · rw [cj, kb, kk, up2_at, up2_at]
        exact ⟨hie, rfl, rfl⟩
      · rw [up2_ne (Or.inr cj), up2_ne (Or.inr cj)]
        exact s4 j (by omega)
    refine ⟨by omega, hie, (congrFun (up2_row (by decide)) 4).trans up2_at, s4', ?_⟩
    by_cases c3 : kc = 3
    · refine Or.inl ⟨Or.inr c3, fun j hj => ?_, ?_⟩
      · by_cases cj : j = n
        · rw [cj, up2_at, kb, en_3 (kk.trans c3)]
        · rw [r4 j cj]
          exact k1 j (by omega)
      · show rn (I 202) e 4 (en (I 202) e (bg (I 202) e n)) = _
        rw [kb, en_3 (kk.trans c3)]
    · refine Or.inr ⟨n, rfl, by omega, by rw [kb, kk], fun j hj => ?_, up2_at, ?_⟩
      · rw [r4 j (by omega)]
        exact k1 j hj
      · rw [kb]
        rcases hkc with z | z | z | z
        · rw [en_1 (kk.trans z), z, rn_t ((isK_of 1).mpr z)]
        · rw [en_2 (kk.trans z), z, rn_t ((isK_of 2).mpr z)]
        · exact absurd z c3
        · exact absurd z n4
  refine a_l4 rfl rfl rfl ?_
  refine a_s rfl rfl ?_
  refine a_ic_eq rfl (fun c => ?_) (fun c3 => ?_)
  · have c := nI_inj (b := 3) (by omega) (by decide) c
    exact k45 (by omega) (by omega)
  have c3 : kc ≠ 3 := fun z => c3 (congrArg nI z)
  refine a_l4 rfl rfl rfl ?_
  refine a_s rfl rfl ?_
  refine a_ic_eq rfl (fun c => ?_) (fun c4 => ?_)
  · have c := nI_inj (b := 4) (by omega) (by decide) c
    obtain ⟨k1, k2⟩ := SIs.cl hSI (by
      rcases s5 with ⟨z, -⟩ | ⟨_, -, z, -⟩
      · exact Or.inl z
      · exact Or.inr fun y => by have := (isK_of la).mp y; omega)
    refine a_l4 rfl rfl rfl ?_
    refine a_s rfl rfl ?_
    refine a_ic_eq rfl (fun _ => ?_) (fun z => absurd (congrArg nI c) z)
    exact on n J hF ⟨by omega, hie, s3, s4, Or.inl ⟨Or.inl c, k1, k2.trans (rn_t ((isK_of 4).mpr c))⟩⟩
  have c4 : kc ≠ 4 := fun z => c4 (congrArg nI z)
  refine a_l4 rfl rfl rfl ?_
  refine a_l2 rfl rfl rfl ?_
  refine a_ic_eq rfl (fun c => ?_) (fun cl => ?_)
  · have c := nI_inj (by omega) (by omega) c
    rcases s5 with ⟨z, -⟩ | ⟨m, rfl, h2, h3, h4', h5, h6⟩
    · exfalso
      omega
    · refine k52 m J c4 (by omega) s3 hF ⟨by omega, hie, (congrFun (up2_row (by decide)) 4).trans s3, fun j hj => ?_, Or.inr ⟨m, rfl, by omega, h3.trans c.symm, fun j hj => ?_, up2_at, ?_⟩⟩
      · rw [up2_row (by decide), up2_row (by decide)]
        exact s4 j hj
      · rw [up2_ne (Or.inr (by omega))]
        exact h4' j hj
      · rw [h6, c, rn_t ((isK_of la).mpr c)]
  · exact k45 c4 (Or.inr fun z => cl (congrArg nI z))
theorem Ats.wk {w : Nat} (h : Ats T e b w I) : WK w := by
  rw [Ats.wo h]
  exact wr_wk
theorem sg_next (hw : WdS S) (h : Ats T e b w1 I) : Sp S m_X9_next 13 0 0 [.ref 204] (hp I L w1 w2 t) (fun v h' => v = none ∧ ∃ J w, h' = hp J L w w2 t ∧ Ats T e (nx T e b) w J ∧ ∀ q, q ≠ 204 → J q = I q) nX := by
  obtain ⟨⟨n, j, hT, hj, h5, rfl⟩, -⟩ := h
  have hn := hT.1
  by_cases c : j + 1 ≤ n
  · exact s_next (i := j + 1) (j := j + 1) hw hT (by rw [h5, ← nI_succ]) (if_pos c).symm (by omega)
  · obtain rfl : j = n := by omega
    have e1 : nx T e (bg T e j) = bg T e j := nx_e hT.2.1
    rw [e1]
    exact s_next (i := j + 1) (j := j) hw hT (by rw [h5, ← nI_succ]) (if_neg c).symm (by omega)
theorem s_isEnd (h : Ats T e b w1 I) : SpE S m_X9_isEnd 12 [.ref 204] (hp I L w1 w2 t) (some (.int (bI (decide (¬ b < e))))) (hp I L w1 w2 t) := by
  refine SpE_of ok_X9_isEnd rfl rfl ?_
  show AW S m_X9_isEnd 12 _ _ 0 0 0 [some (.ref 204)] [] (hp I L w1 w2 t)
  refine a_l0 rfl rfl rfl ?_
  refine a_getiv (v := nI (kd T e b)) rfl gfX9_97_9 rfl (Ats.ki h) ?_
  have k4 := kd_4 (T := T) (e := e) (b := b) rfl
  refine a_if_ne rfl (fun c => ?_) (fun c => ?_)
  · refine a_s rfl rfl ?_
    refine a_zret rfl rfl rfl ⟨?_, rfl⟩
    rw [show decide (¬ b < e) = false from decide_eq_false fun z => c (by rw [kd_ge z]; rfl)]
    rfl
  · refine a_s rfl rfl ?_
    refine a_goto rfl ?_
    refine a_zret rfl rfl rfl ⟨?_, rfl⟩
    rw [show decide (¬ b < e) = true from decide_eq_true (kd_0 ((nI_eq0 (by omega)).mp c))]
    rfl
theorem s_isSign (h : Ats T e b w1 I) {x : Int32} : SpE S m_X9_isSign 12 [.ref 204, .int x] (hp I L w1 w2 t) (some (.int (bI (sg T e b x)))) (hp I L w1 w2 t) := by
  refine SpE_of ok_X9_isSign rfl rfl ?_
  show AW S m_X9_isSign 12 _ _ 0 0 0 [some (.ref 204), some (.int x)] [] (hp I L w1 w2 t)
  have k4 := kd_4 (T := T) (e := e) (b := b) rfl
  refine a_l0 rfl rfl rfl ?_
  refine a_getiv (v := nI (kd T e b)) rfl gfX9_97_9 rfl (Ats.ki h) ?_
  refine a_s rfl rfl ?_
  refine a_ic_ne rfl (fun c => ?_) (fun c => ?_)
  · refine a_s rfl rfl ?_
    refine a_zret rfl rfl rfl ⟨?_, rfl⟩
    rw [show sg T e b x = false from decide_eq_false fun z => c (congrArg nI z.1)]
    rfl
  have c := nI_inj (b := 3) (by omega) (by decide) c
  refine a_l0 rfl rfl rfl ?_
  refine a_getiv (v := vl T e b) rfl gfX9_103_9 rfl (Ats.va h) ?_
  refine a_l1 rfl rfl rfl ?_
  refine a_ic_ne rfl (fun c2 => ?_) (fun c2 => ?_)
  · refine a_s rfl rfl ?_
    refine a_zret rfl rfl rfl ⟨?_, rfl⟩
    rw [show sg T e b x = false from decide_eq_false fun z => c2 z.2]
    rfl
  · refine a_s rfl rfl ?_
    refine a_goto rfl ?_
    refine a_zret rfl rfl rfl ⟨?_, rfl⟩
    rw [show sg T e b x = true from decide_eq_true ⟨c, c2⟩]
    rfl
def Tks (T : Nat → Int32) (e b : Nat) (z : Bool) (I : Nat → Nat → Int32) (L : Nat → Nat → Int64) (w2 t : Nat) : Option Value → aH → Prop := fun v h' => v = some (.int (bI z)) ∧ ∃ J w, h' = hp J L w w2 t ∧ Ats T e (if z = true then nx T e b else b) w J ∧ ∀ q, q ≠ 204 → J q = I q
theorem s_takeSign (hw : WdS S) (h : Ats T e b w1 I) {x : Int32} : Sp S m_X9_takeSign 14 0 0 [.ref 204, .int x] (hp I L w1 w2 t) (Tks T e b (sg T e b x) I L w2 t) nX := by
  refine Sp_of ok_X9_takeSign rfl rfl ?_
  show AW S m_X9_takeSign 14 _ _ 0 0 0 [some (.ref 204), some (.int x), none] [] (hp I L w1 w2 t)
  refine a_l0 rfl rfl rfl ?_
  refine a_l1 rfl rfl rfl ?_
  refine a_eV1 rfl lX9_110 mo_X9_isSign (s_isSign h) rfl rfl rfl ⟨9, _, rfl, rfl, rfl⟩ rfl ?_
  refine a_s2 rfl rfl rfl rfl rfl rfl ?_
  refine a_l2 rfl rfl rfl ?_
  cases c : sg T e b x with
  | false =>
    refine a_if_eq rfl (fun _ => ?_) (fun z => absurd rfl z)
    refine a_l2 rfl rfl rfl ?_
    exact a_zret rfl rfl rfl ⟨rfl, I, w1, rfl, h, fun _ _ => rfl⟩
  | true =>
    refine a_if_eq rfl (fun z => absurd z (by decide)) (fun _ => ?_)
    refine a_l0 rfl rfl rfl ?_
    refine a_gV rfl lX9_55 mo_X9_next (sg_next hw h) rfl rfl rfl ⟨9, _, rfl, rfl, rfl⟩ rfl (fun v' h' hv => ?_)
    obtain ⟨rfl, J, w, rfl, hA, hf⟩ := hv
    refine a_l2 rfl rfl rfl ?_
    exact a_zret rfl rfl rfl ⟨rfl, J, w, rfl, hA, hf⟩
theorem s_takeWord (hw : WdS S) (h : Ats T e b w1 I) {k : Nat} (hk : k < 27) : Sp S m_X9_takeWord 14 0 0 [.ref 204, .ref (100 + k)] (hp I L w1 w2 t) (Tks T e b (isWd T e b k) I L w2 t) nX := by
  refine Sp_of ok_X9_takeWord rfl rfl ?_
  show AW S m_X9_takeWord 14 _ _ 0 0 0 [some (.ref 204), some (.ref (100 + k)), none] [] (hp I L w1 w2 t)
  refine a_l0 rfl rfl rfl ?_
  refine a_getr rfl gfX9_106_9 rfl ?_
  refine a_pop1 (show _ = rv w1 :: _ from rfl) ?_
  refine a_l1 rfl rfl rfl ?_
  refine a_acmp_ne (rx := w1) (ry := 100 + k + 1) rfl ((Ats.wk h).ac hw) (WK.ck hw hk) (fun c => ?_) (fun c => ?_)
  · have c3 : isWd T e b k = false := Bool.eq_false_iff.mpr fun z => c ((Ats.wo h).trans ((wr_is hk).mpr z))
    refine a_s rfl rfl ?_
    refine a_s2 rfl rfl rfl rfl rfl rfl ?_
    refine a_l2 rfl rfl rfl ?_
    refine a_if_eq rfl (fun _ => ?_) (fun z => absurd rfl z)
    refine a_l2 rfl rfl rfl ?_
    exact a_zret rfl rfl rfl ⟨by rw [c3]; rfl, I, w1, rfl, by rw [c3]; exact h, fun _ _ => rfl⟩
  · have c3 : isWd T e b k = true := (wr_is hk).mp ((Ats.wo h).symm.trans c)
    refine a_s rfl rfl ?_
    refine a_goto rfl ?_
    refine a_s2 rfl rfl rfl rfl rfl rfl ?_
    refine a_l2 rfl rfl rfl ?_
    refine a_if_eq rfl (fun z => absurd z (by decide)) (fun _ => ?_)
    refine a_l0 rfl rfl rfl ?_
    refine a_gV rfl lX9_55 mo_X9_next (sg_next hw h) rfl rfl rfl ⟨9, _, rfl, rfl, rfl⟩ rfl (fun v' h' hv => ?_)
    obtain ⟨rfl, J, w, rfl, hA, hf⟩ := hv
    refine a_l2 rfl rfl rfl ?_
    exact a_zret rfl rfl rfl ⟨by rw [c3]; rfl, J, w, rfl, by rw [c3]; exact hA, hf⟩
theorem s_takeNumber (hw : WdS S) (h : Ats T e b w1 I) {lo hi : Int32} (h0 : 0 ≤ lo) : Sp S m_X9_takeNumber 14 0 0 [.ref 204, .int lo, .int hi] (hp I L w1 w2 t) (fun v h' => v = some (.int (nm T e b lo hi)) ∧ ∃ J w, h' = hp J L w w2 t ∧ Ats T e (if nm T e b lo hi = -1 then b else nx T e b) w J ∧ ∀ q, q ≠ 204 → J q = I q) nX := by
  refine Sp_of ok_X9_takeNumber rfl rfl ?_
  show AW S m_X9_takeNumber 14 _ _ 0 0 0 [some (.ref 204), some (.int lo), some (.int hi), none] [] (hp I L w1 w2 t)
  have k4 := kd_4 (T := T) (e := e) (b := b) rfl
  have no : nm T e b lo hi = -1 → AW S m_X9_takeNumber 14 (fun v h' => v = some (.int (nm T e b lo hi)) ∧ ∃ J w, h' = hp J L w w2 t ∧ Ats T e (if nm T e b lo hi = -1 then b else nx T e b) w J ∧ ∀ q, q ≠ 204 → J q = I q) nX 0 0 23 [some (.ref 204), some (.int lo), some (.int hi), some (.int (vl T e b))] [] (hp I L w1 w2 t) := by
    intro hn
    refine a_s rfl rfl ?_
    exact a_iret rfl rfl ⟨by rw [hn], I, w1, rfl, by rw [if_pos hn]; exact h, fun _ _ => rfl⟩
  refine a_l0 rfl rfl rfl ?_
  refine a_getiv (v := vl T e b) rfl gfX9_103_9 rfl (Ats.va h) ?_
  refine a_s3 rfl rfl rfl rfl rfl rfl ?_
  refine a_l0 rfl rfl rfl ?_
  refine a_getiv (v := nI (kd T e b)) rfl gfX9_97_9 rfl (Ats.ki h) ?_
  refine a_s rfl rfl ?_
  refine a_ic_ne rfl (fun c => no (if_neg fun z => c (congrArg nI z.1))) (fun c => ?_)
  have c := nI_inj (b := 2) (by omega) (by decide) c
  refine a_l3 rfl rfl rfl ?_
  refine a_l1 rfl rfl rfl ?_
  refine a_ic_lt rfl (fun c2 => no (if_neg fun z => absurd c2 (Int32.not_lt.mpr z.2.1))) (fun c2 => ?_)
  refine a_l3 rfl rfl rfl ?_
  refine a_l2 rfl rfl rfl ?_
  refine a_ic_le rfl (fun c3 => ?_) (fun c3 => no (if_neg fun z => c3 z.2.2))
  have c2 := Int32.not_lt.mp c2
  have hn : nm T e b lo hi = vl T e b := if_pos ⟨c, c2, c3⟩
  have hne : ¬ nm T e b lo hi = -1 := fun z => by
    rw [hn] at z
    rw [z] at c2
    exact absurd (Int32.le_trans h0 c2) (by decide)
  refine a_l0 rfl rfl rfl ?_
  refine a_gV rfl lX9_55 mo_X9_next (sg_next hw h) rfl rfl rfl ⟨9, _, rfl, rfl, rfl⟩ rfl (fun v' h' hv => ?_)
  obtain ⟨rfl, J, w, rfl, hA, hf⟩ := hv
  refine a_l3 rfl rfl rfl ?_
  exact a_iret rfl rfl ⟨by rw [hn], J, w, rfl, by rw [if_neg hne]; exact hA, hf⟩
end T79l
end
section
/-! ===== a street as a row of numbers; what a text of the street says ===== -/
section P79m
def ud (W : Nat → Int32) (k : Nat) (v : Int32) : Nat → Int32 := fun j => if j = k then v else W j
theorem ud_at {W : Nat → Int32} {k : Nat} {v : Int32} : ud W k v k = v := if_pos rfl
theorem ud_ne {W : Nat → Int32} {k j : Nat} {v : Int32} (h : j ≠ k) : ud W k v j = W j := if_neg h
theorem up2_ud {I : Nat → Nat → Int32} {p k : Nat} {v : Int32} : up2 I p k v p = ud (I p) k v := by
  funext j
  by_cases c : j = k
  · rw [c, up2_at, ud_at]
  · rw [up2_ne (Or.inr c), ud_ne c]
/-- a street's own fields: where they lie in the row -/
def flds : List (Nat × Nat) := [(0, 0), (3, 1), (16, 2), (10, 4), (11, 5), (12, 6), (13, 7), (14, 8), (15, 10)]
theorem flds_in : ∀ x ∈ flds, x.2 < 11 ∧ ∀ y ∈ flds, x.1 = y.1 → x.2 = y.2 := by decide
theorem flds_ni : ∀ x ∈ flds, ∀ y ∈ flds, x.2 = y.2 → x.1 = y.1 := by decide
/-- the street at a is the one that the row tells -/
def Sd (I : Nat → Nat → Int32) (a : Nat) (W : Nat → Int32) : Prop := (∀ x ∈ flds, I a x.1 = W x.2) ∧ (∀ p, p < 6 → I (a + 1) p = W (11 + 2 * p) ∧ I (a + 2) p = W (11 + 2 * p + 1)) ∧ ∀ d, d < 12 → ∀ k, k < 6 → I (a + 3 + k) d = W (23 + 6 * d + k)
theorem Sd.fd {I : Nat → Nat → Int32} {a : Nat} {W : Nat → Int32} (h : Sd I a W) {f g : Nat} (hm : (f, g) ∈ flds) : I a f = W g := h.1 (f, g) hm
theorem Sd.eq {I J : Nat → Nat → Int32} {a : Nat} {W : Nat → Int32} (h : Sd I a W) (f : ∀ q, a ≤ q → q ≤ a + 8 → J q = I q) : Sd J a W := by
  obtain ⟨h1, h2, h3⟩ := h
  refine ⟨fun x hx => ?_, fun p hp => ?_, fun d hd k hk => ?_⟩
  · rw [f a (by omega) (by omega)]
    exact h1 x hx
  · rw [f (a + 1) (by omega) (by omega), f (a + 2) (by omega) (by omega)]
    exact h2 p hp
  · rw [f (a + 3 + k) (by omega) (by omega)]
    exact h3 d hd k hk
theorem Sd.pu {I : Nat → Nat → Int32} {a f g : Nat} {W : Nat → Int32} {v : Int32} (h : Sd I a W) (hm : (f, g) ∈ flds) : Sd (up2 I a f v) a (ud W g v) := by
  obtain ⟨h1, h2, h3⟩ := h
  have hg : g < 11 := (flds_in _ hm).1
  refine ⟨fun x hx => ?_, fun p hp => ?_, fun d hd k hk => ?_⟩
  · by_cases c : x.1 = f
    · rw [c, up2_at, show x.2 = g from (flds_in x hx).2 _ hm c, ud_at]
    · rw [up2_ne (Or.inr c), ud_ne (fun z => c (flds_ni x hx _ hm z))]
      exact h1 x hx
  · rw [up2_row (by omega), up2_row (by omega), ud_ne (by omega), ud_ne (by omega)]
    exact h2 p hp
  · rw [up2_row (by omega), ud_ne (by omega)]
    exact h3 d hd k hk
theorem Sd.kb {I : Nat → Nat → Int32} {a p : Nat} {W : Nat → Int32} {v : Int32} (h : Sd I a W) (hp : p < 6) : Sd (up2 I (a + 1) p v) a (ud W (11 + 2 * p) v) := by
  obtain ⟨h1, h2, h3⟩ := h
  refine ⟨fun x hx => ?_, fun q hq => ?_, fun d hd k hk => ?_⟩
  · have := (flds_in x hx).1
    rw [up2_row (by omega), ud_ne (by omega)]
    exact h1 x hx
  · rw [up2_row (p := a + 1) (q := a + 2) (by omega), ud_ne (j := 11 + 2 * q + 1) (by omega)]
    refine ⟨?_, (h2 q hq).2⟩
    by_cases c : q = p
    · rw [c, up2_at, ud_at]
    · rw [up2_ne (Or.inr c), ud_ne (by omega)]
      exact (h2 q hq).1
  · rw [up2_row (by omega), ud_ne (by omega)]
    exact h3 d hd k hk
theorem Sd.fr {I : Nat → Nat → Int32} {a p : Nat} {W : Nat → Int32} {v : Int32} (h : Sd I a W) (hp : p < 6) : Sd (up2 I (a + 2) p v) a (ud W (11 + 2 * p + 1) v) := by
  obtain ⟨h1, h2, h3⟩ := h
  refine ⟨fun x hx => ?_, fun q hq => ?_, fun d hd k hk => ?_⟩
  · have := (flds_in x hx).1
    rw [up2_row (by omega), ud_ne (by omega)]
    exact h1 x hx
  · rw [up2_row (p := a + 2) (q := a + 1) (by omega), ud_ne (j := 11 + 2 * q) (by omega)]
    refine ⟨(h2 q hq).1, ?_⟩
    by_cases c : q = p
    · rw [c, up2_at, ud_at]
    · rw [up2_ne (Or.inr c), ud_ne (by omega)]
      exact (h2 q hq).2
  · rw [up2_row (by omega), ud_ne (by omega)]
    exact h3 d hd k hk
theorem Sd.ro {I : Nat → Nat → Int32} {a d k : Nat} {W : Nat → Int32} {v : Int32} (h : Sd I a W) (hd : d < 12) (hk : k < 6) : Sd (up2 I (a + 3 + k) d v) a (ud W (23 + 6 * d + k) v) := by
  obtain ⟨h1, h2, h3⟩ := h
  refine ⟨fun x hx => ?_, fun q hq => ?_, fun d' hd' k' hk' => ?_⟩
  · have := (flds_in x hx).1
    rw [up2_row (by omega), ud_ne (by omega)]
    exact h1 x hx
  · rw [up2_row (by omega), up2_row (by omega), ud_ne (by omega), ud_ne (by omega)]
    exact h2 q hq
  · by_cases c : d' = d ∧ k' = k
    · rw [c.1, c.2, up2_at, ud_at]
    · rw [up2_ne (by omega), ud_ne (by omega)]
      exact h3 d' hd' k' hk'
/-- how many -/
def pn (W : Nat → Int32) : Nat := (W 0).toNatClampNeg
def dn (W : Nat → Int32) : Nat := (W 1).toNatClampNeg
def WOk (W : Nat → Int32) : Prop := pn W ≤ 6 ∧ dn W ≤ 12 ∧ W 0 = nI (pn W) ∧ W 1 = nI (dn W)
theorem WOk.of {W : Nat → Int32} {np nd : Nat} (hp : np ≤ 6) (hd : nd ≤ 12) (h0 : W 0 = nI np) (h1 : W 1 = nI nd) : WOk W ∧ pn W = np ∧ dn W = nd := by
  have e0 : pn W = np := by unfold pn; rw [h0, nI_clamp (by omega)]
  have e1 : dn W = nd := by unfold dn; rw [h1, nI_clamp (by omega)]
  exact ⟨⟨by omega, by omega, by rw [e0]; exact h0, by rw [e1]; exact h1⟩, e0, e1⟩
theorem WOk.eq {W W' : Nat → Int32} (h : WOk W) (e0 : W' 0 = W 0) (e1 : W' 1 = W 1) : WOk W' := by
  obtain ⟨h1, h2, h3, h4⟩ := h
  exact (WOk.of h1 h2 (e0.trans h3) (e1.trans h4)).1
abbrev SR : Type := Bool × Nat × (Nat → Int32)
/-- a number behind a word; where what is next begins then, or what is wrong -/
def nbP (T : Nat → Int32) (e k : Nat) (lo hi : Int32) (b : Nat) : Int32 × Nat := if isWd T e b k = true then (if nm T e (nx T e b) lo hi = -1 then (-1, nx T e b) else (nm T e (nx T e b) lo hi, nx T e (nx T e b))) else (-1, b)
def optP (T : Nat → Int32) (e k : Nat) (lo hi d : Int32) (b : Nat) : Bool × Int32 × Nat := if isWd T e b k = true then (if nm T e (nx T e b) lo hi = -1 then (false, -1, nx T e b) else (true, nm T e (nx T e b) lo hi, nx T e (nx T e b))) else (true, d, b)
def addPs (W : Nat → Int32) (x y : Int32) : Nat → Int32 := ud (ud (ud W (11 + 2 * pn W) x) (11 + 2 * pn W + 1) y) 0 (nI (pn W + 1))
def addDt (W : Nat → Int32) (o l a t n : Int32) : Nat → Int32 := ud (ud (ud (ud (ud (ud (ud W (23 + 6 * dn W + 0) o) (23 + 6 * dn W + 1) l) (23 + 6 * dn W + 2) a) (23 + 6 * dn W + 3) t) (23 + 6 * dn W + 4) n) (23 + 6 * dn W + 5) 0) 1 (nI (dn W + 1))
def perC (W : Nat → Int32) (k : Int32) (y : Int32 × Nat) : SR := if y.1 = -1 then (false, y.2, W) else (true, y.2, addPs W k y.1)
def perB (T : Nat → Int32) (e : Nat) (W : Nat → Int32) (x : Int32 × Nat) : SR := if x.1 = -1 then (false, x.2, W) else perC W x.1 (nbP T e 2 0 9 x.2)
def perP (T : Nat → Int32) (e b : Nat) (W : Nat → Int32) : SR := if W 0 = 6 then (false, b, W) else perB T e W (nbP T e 1 0 15 (nx T e b))
def duE (W : Nat → Int32) (o l a t : Int32) (y : Bool × Int32 × Nat) : SR := if y.1 = true then (true, y.2.2, addDt W o l a t y.2.1) else (false, y.2.2, W)
def duD (T : Nat → Int32) (e : Nat) (W : Nat → Int32) (o l a : Int32) (y : Bool × Int32 × Nat) : SR := if y.1 = true then duE W o l a y.2.1 (optP T e 8 0 (W 1 - 1) (-1) y.2.2) else (false, y.2.2, W)
def duC (T : Nat → Int32) (e : Nat) (W : Nat → Int32) (o l : Int32) (y : Bool × Int32 × Nat) : SR := if y.1 = true then duD T e W o l y.2.1 (optP T e 7 0 5 (-1) y.2.2) else (false, y.2.2, W)
def duB (T : Nat → Int32) (e : Nat) (W : Nat → Int32) (o : Int32) (x : Int32 × Nat) : SR := if x.1 = -1 then (false, x.2, W) else duC T e W o x.1 (optP T e 6 0 99 0 x.2)
def duA (T : Nat → Int32) (e : Nat) (W : Nat → Int32) (x : Int32 × Nat) : SR := if x.1 = -1 then (false, x.2, W) else duB T e W x.1 (nbP T e 5 1 99 x.2)
def dutP (T : Nat → Int32) (e b : Nat) (W : Nat → Int32) : SR := if W 1 = 12 then (false, b, W) else duA T e W (nbP T e 4 0 (W 0 - 1) (nx T e b))
def forP (T : Nat → Int32) (e b : Nat) (W : Nat → Int32) : SR := if nm T e b 0 (W 1 - 1) = -1 then (false, b, W) else if W (23 + 6 * (nm T e b 0 (W 1 - 1)).toNatClampNeg + 5) = 0 then (true, nx T e b, ud W (23 + 6 * (nm T e b 0 (W 1 - 1)).toNatClampNeg + 5) 2) else (false, b, W)
def setP (T : Nat → Int32) (e b : Nat) (W : Nat → Int32) (g : Nat) (lo hi : Int32) : SR := if nm T e b lo hi = -1 then (false, b, W) else (true, nx T e b, ud W g (nm T e b lo hi))
def stgP (T : Nat → Int32) (e b : Nat) (W : Nat → Int32) : SR :=
  if isWd T e b 10 = true then setP T e (nx T e b) W 6 0 100 else if isWd T e b 11 = true then setP T e (nx T e b) W 7 1 9 else if isWd T e b 12 = true then setP T e (nx T e b) W 8 0 50 else
  if isWd T e b 13 = true then setP T e (nx T e b) W 4 1 30 else if isWd T e b 14 = true then setP T e (nx T e b) W 5 0 999 else (false, b, W)
def linP (T : Nat → Int32) (e b : Nat) (W : Nat → Int32) : SR :=
  if isWd T e b 0 = true then perP T e b W else if isWd T e b 3 = true then dutP T e b W else if isWd T e b 9 = true then forP T e (nx T e b) W else
  stgP T e b W
def strsP (T : Nat → Int32) (e : Nat) : Nat → Nat → (Nat → Int32) → SR
  | 0, b, W => (false, b, W)
  | f + 1, b, W =>
    if (linP T e b W).1 = true then
      (if (linP T e b W).2.1 < e then
        (if sg T e (linP T e b W).2.1 59 = true then strsP T e f (nx T e (linP T e b W).2.1) (linP T e b W).2.2 else (false, (linP T e b W).2.1, W))
       else (true, (linP T e b W).2.1, (linP T e b W).2.2))
    else (false, (linP T e b W).2.1, W)
def strP (T : Nat → Int32) (e : Nat) (W : Nat → Int32) : SR := if bg T e 0 < e then strsP T e 14 (bg T e 0) W else (true, bg T e 0, W)
variable {T : Nat → Int32} {e b : Nat} {W : Nat → Int32}
theorem strsP_s {f : Nat} : strsP T e (f + 1) b W =
    if (linP T e b W).1 = true then
      (if (linP T e b W).2.1 < e then
        (if sg T e (linP T e b W).2.1 59 = true then strsP T e f (nx T e (linP T e b W).2.1) (linP T e b W).2.2 else (false, (linP T e b W).2.1, W))
       else (true, (linP T e b W).2.1, (linP T e b W).2.2))
    else (false, (linP T e b W).2.1, W) := rfl
theorem nm_in {lo hi : Int32} (h : ¬ nm T e b lo hi = -1) : lo ≤ nm T e b lo hi ∧ nm T e b lo hi ≤ hi ∧ kd T e b = 2 ∧ nm T e b lo hi = vl T e b := by
  unfold nm at h ⊢
  by_cases c : kd T e b = 2 ∧ lo ≤ vl T e b ∧ vl T e b ≤ hi
  · rw [if_pos c]
    exact ⟨c.2.1, c.2.2, c.1, rfl⟩
  · rw [if_neg c] at h
    exact absurd rfl h
/-- a number below so many -/
theorem nm_ix {n : Nat} (hn : n ≤ 12) (h : ¬ nm T e b 0 (nI n - 1) = -1) : ∃ j, j < n ∧ nm T e b 0 (nI n - 1) = nI j := by
  obtain ⟨h1, h2, -, -⟩ := nm_in h
  generalize nm T e b 0 (nI n - 1) = v at h1 h2
  rcases n with _ | n
  · exfalso
    exact absurd (Int32.le_trans h1 h2) (by decide)
  · rw [nI_dec, Int32.le_iff_toInt_le, nI_toInt (by omega)] at h2
    rw [Int32.le_iff_toInt_le, show (0 : Int32).toInt = 0 from rfl] at h1
    refine ⟨v.toInt.toNat, by omega, ?_⟩
    rw [← Int32.toInt_inj, nI_toInt (by omega)]
    omega
theorem nbP_t {k : Nat} {lo hi : Int32} (h : isWd T e b k = true) : nbP T e k lo hi b = if nm T e (nx T e b) lo hi = -1 then (-1, nx T e b) else (nm T e (nx T e b) lo hi, nx T e (nx T e b)) := if_pos h
theorem nbP_f {k : Nat} {lo hi : Int32} (h : isWd T e b k = false) : nbP T e k lo hi b = (-1, b) := if_neg (by rw [h]; exact Bool.false_ne_true)
theorem addPs_ok (h : WOk W) (h6 : ¬ W 0 = 6) {x y : Int32} : WOk (addPs W x y) := by
  obtain ⟨h1, h2, h3, h4⟩ := h
  have : pn W ≠ 6 := fun z => h6 (by rw [h3, z]; rfl)
  refine (WOk.of (np := pn W + 1) (nd := dn W) (by omega) h2 ud_at ?_).1
  show ud (ud (ud W (11 + 2 * pn W) x) (11 + 2 * pn W + 1) y) 0 (nI (pn W + 1)) 1 = _
  rw [ud_ne (by decide), ud_ne (by omega), ud_ne (by omega)]
  exact h4
theorem addDt_ok (h : WOk W) (h6 : ¬ W 1 = 12) {o l a t n : Int32} : WOk (addDt W o l a t n) := by
  obtain ⟨h1, h2, h3, h4⟩ := h
  have : dn W ≠ 12 := fun z => h6 (by rw [h4, z]; rfl)
  refine (WOk.of (np := pn W) (nd := dn W + 1) h1 (by omega) ?_ ud_at).1
  rw [ud_ne (by decide), ud_ne (by omega), ud_ne (by omega), ud_ne (by omega), ud_ne (by omega), ud_ne (by omega), ud_ne (by omega)]
  exact h3
theorem ud_ok (h : WOk W) {g : Nat} {v : Int32} (hg : 2 ≤ g) : WOk (ud W g v) := h.eq (ud_ne (by omega)) (ud_ne (by omega))
theorem perP_ok (h : WOk W) (hz : (perP T e b W).1 = true) : WOk (perP T e b W).2.2 := by
  unfold perP at hz ⊢
  by_cases c : W 0 = 6
  · rw [if_pos c] at hz
    cases hz
  rw [if_neg c] at hz ⊢
  unfold perB at hz ⊢
  by_cases c2 : (nbP T e 1 0 15 (nx T e b)).1 = -1
  · rw [if_pos c2] at hz
    cases hz
  rw [if_neg c2] at hz ⊢
  unfold perC at hz ⊢
  by_cases c3 : (nbP T e 2 0 9 (nbP T e 1 0 15 (nx T e b)).2).1 = -1
  · rw [if_pos c3] at hz
    cases hz
  rw [if_neg c3] at hz ⊢
  exact addPs_ok h c
theorem dutP_ok (h : WOk W) (hz : (dutP T e b W).1 = true) : WOk (dutP T e b W).2.2 := by
  unfold dutP at hz ⊢
  by_cases c : W 1 = 12
  · rw [if_pos c] at hz
    cases hz
  rw [if_neg c] at hz ⊢
  generalize nbP T e 4 0 (W 0 - 1) (nx T e b) = x at hz ⊢
  unfold duA at hz ⊢
  by_cases c2 : x.1 = -1
  · rw [if_pos c2] at hz
    cases hz
  rw [if_neg c2] at hz ⊢
  generalize nbP T e 5 1 99 x.2 = y at hz ⊢
  unfold duB at hz ⊢
  by_cases c3 : y.1 = -1
  · rw [if_pos c3] at hz
    cases hz
  rw [if_neg c3] at hz ⊢
  generalize optP T e 6 0 99 0 y.2 = u at hz ⊢
  unfold duC at hz ⊢
  by_cases c4 : u.1 = true
  · rw [if_pos c4] at hz ⊢
    generalize optP T e 7 0 5 (-1) u.2.2 = v at hz ⊢
    unfold duD at hz ⊢
    by_cases c5 : v.1 = true
    · rw [if_pos c5] at hz ⊢
      generalize optP T e 8 0 (W 1 - 1) (-1) v.2.2 = w at hz ⊢
      unfold duE at hz ⊢
      by_cases c6 : w.1 = true
      · rw [if_pos c6] at hz ⊢
        exact addDt_ok h c
      · rw [if_neg c6] at hz
        cases hz
    · rw [if_neg c5] at hz
      cases hz
  · rw [if_neg c4] at hz
    cases hz
theorem forP_ok (h : WOk W) (hz : (forP T e b W).1 = true) : WOk (forP T e b W).2.2 := by
  unfold forP at hz ⊢
  by_cases c : nm T e b 0 (W 1 - 1) = -1
  · rw [if_pos c] at hz
    cases hz
  rw [if_neg c] at hz ⊢
  by_cases c2 : W (23 + 6 * (nm T e b 0 (W 1 - 1)).toNatClampNeg + 5) = 0
  · rw [if_pos c2]
    exact ud_ok h (by omega)
  · rw [if_neg c2] at hz
    cases hz
theorem setP_ok (h : WOk W) {g : Nat} {lo hi : Int32} (hg : 2 ≤ g) (hz : (setP T e b W g lo hi).1 = true) : WOk (setP T e b W g lo hi).2.2 := by
  unfold setP at hz ⊢
  by_cases c : nm T e b lo hi = -1
  · rw [if_pos c] at hz
    cases hz
  rw [if_neg c]
  exact ud_ok h hg
theorem stgP_ok (h : WOk W) (hz : (stgP T e b W).1 = true) : WOk (stgP T e b W).2.2 := by
  unfold stgP at hz ⊢
  by_cases c : isWd T e b 10 = true
  · rw [if_pos c] at hz ⊢; exact setP_ok h (by decide) hz
  rw [if_neg c] at hz ⊢
  by_cases c : isWd T e b 11 = true
  · rw [if_pos c] at hz ⊢; exact setP_ok h (by decide) hz
  rw [if_neg c] at hz ⊢
  by_cases c : isWd T e b 12 = true
  · rw [if_pos c] at hz ⊢; exact setP_ok h (by decide) hz
  rw [if_neg c] at hz ⊢
  by_cases c : isWd T e b 13 = true
  · rw [if_pos c] at hz ⊢; exact setP_ok h (by decide) hz
  rw [if_neg c] at hz ⊢
  by_cases c : isWd T e b 14 = true
  · rw [if_pos c] at hz ⊢; exact setP_ok h (by decide) hz
  rw [if_neg c] at hz
  cases hz
theorem linP_ok (h : WOk W) (hz : (linP T e b W).1 = true) : WOk (linP T e b W).2.2 := by
  unfold linP at hz ⊢
  by_cases c : isWd T e b 0 = true
  · rw [if_pos c] at hz ⊢; exact perP_ok h hz
  rw [if_neg c] at hz ⊢
  by_cases c : isWd T e b 3 = true
  · rw [if_pos c] at hz ⊢; exact dutP_ok h hz
  rw [if_neg c] at hz ⊢
  by_cases c : isWd T e b 9 = true
  · rw [if_pos c] at hz ⊢; exact forP_ok h hz
  rw [if_neg c] at hz ⊢
  exact stgP_ok h hz
end P79m
end
section
/-! ===== the class: a text of the street (printed by program) ===== -/
section T79n
variable {S : aS} {I : Nat → Nat → Int32} {L : Nat → Nat → Int64} {w1 w2 t : Nat} {e b : Nat} {T W : Nat → Int32}
set_option maxRecDepth 100000
def sO (q k : Nat) : Bool := Nat.ble 204 q && Nat.ble q 217
theorem sO_in {q k : Nat} (h : sO q k = false) : q < 204 ∨ 217 < q := by
  unfold sO at h
  by_cases c1 : 204 ≤ q
  · rw [Nat.ble_eq_true_of_le c1] at h
    by_cases c2 : q ≤ 217
    · rw [Nat.ble_eq_true_of_le c2] at h
      cases h
    · omega
  · omega
theorem Fms {J J' : Nat → Nat → Int32} (h : Fm sO I J) (f : ∀ q, q ≠ 204 → J' q = J q) : Fm sO I J' := fun q k hq => by
  rw [f q (by have := sO_in hq; omega)]
  exact h q k hq
theorem Sd.nx {J : Nat → Nat → Int32} (h : Sd I 209 W) (f : ∀ q, q ≠ 204 → J q = I q) : Sd J 209 W := Sd.eq h fun q g1 g2 => f q (by omega)
theorem Fms.d {J J' : Nat → Nat → Int32} (h : Fm sO I J) (f : ∀ q, ¬ (204 ≤ q ∧ q ≤ 208) → J' q = J q) : Fm sO I J' := fun q k hq => by
  rw [f q (by have := sO_in hq; omega)]
  exact h q k hq
theorem s_addPerson {np : Nat} (h0 : I 209 0 = nI np) (h6 : np < 6) {x y : Int32} : SpE S m_X5_addPerson 13 [.ref 209, .int x, .int y] (hp I L w1 w2 t) none (hp (up2 (up2 (up2 I 210 np x) 211 np y) 209 0 (nI (np + 1))) L w1 w2 t) := by
  refine SpE_of ok_X5_addPerson rfl rfl ?_
  show AW S m_X5_addPerson 13 _ _ 0 0 0 [some (.ref 209), some (.int x), some (.int y)] [] (hp I L w1 w2 t)
  refine a_l0 rfl rfl rfl ?_
  refine a_getq rfl gfX5_9_5 rfl (rfl) ?_
  refine a_l0 rfl rfl rfl ?_
  refine a_getiv (v := nI np) rfl gfX5_56_5 rfl (h0) ?_
  refine a_l1 rfl rfl rfl ?_
  refine a_eSN0 rfl lX5_82 mo_X11_setAt (sp_X11_setAt rfl) rfl rfl rfl rfl ?_
  rw [setF_nI h6 (by decide)]
  refine a_l0 rfl rfl rfl ?_
  refine a_getq rfl gfX5_15_5 rfl (rfl) ?_
  refine a_l0 rfl rfl rfl ?_
  refine a_getiv (v := nI np) rfl gfX5_56_5 rfl ((congrFun (up2_row (by decide)) 0).trans h0) ?_
  refine a_l2 rfl rfl rfl ?_
  refine a_eSN0 rfl lX5_82 mo_X11_setAt (sp_X11_setAt rfl) rfl rfl rfl rfl ?_
  rw [setF_nI h6 (by decide)]
  refine a_l0 rfl rfl rfl ?_
  refine a_s rfl rfl ?_
  refine a_getiv (v := nI np) rfl gfX5_56_5 rfl ((congrFun (up2_row (by decide)) 0).trans ((congrFun (up2_row (by decide)) 0).trans h0)) ?_
  refine a_s rfl rfl ?_
  refine a_s rfl rfl ?_
  refine a_top (y := nI (np + 1)) ((nI_succ np).symm) ?_
  refine a_puti rfl pfX5_56_5 rfl ?_
  exact a_vret rfl rfl ⟨rfl, rfl⟩
def adH (I : Nat → Nat → Int32) (nd : Nat) (x0 x1 x2 x3 x4 : Int32) : Nat → Nat → Int32 := up2 (up2 (up2 (up2 (up2 (up2 (up2 I 212 nd x0) 213 nd x1) 214 nd x2) 215 nd x3) 216 nd x4) 217 nd 0) 209 3 (nI (nd + 1))
theorem s_addDuty {nd : Nat} (h0 : I 209 3 = nI nd) (h6 : nd < 12) {x0 x1 x2 x3 x4 : Int32} : SpE S m_X5_addDuty 13 [.ref 209, .int x0, .int x1, .int x2, .int x3, .int x4] (hp I L w1 w2 t) none (hp (adH I nd x0 x1 x2 x3 x4) L w1 w2 t) := by
  refine SpE_of ok_X5_addDuty rfl rfl ?_
  show AW S m_X5_addDuty 13 _ _ 0 0 0 [some (.ref 209), some (.int x0), some (.int x1), some (.int x2), some (.int x3), some (.int x4)] [] (hp I L w1 w2 t)
  refine a_l0 rfl rfl rfl ?_
  refine a_getq rfl gfX5_18_5 rfl (rfl) ?_
  refine a_l0 rfl rfl rfl ?_
  refine a_getiv (v := nI nd) rfl gfX5_63_5 rfl (h0) ?_
  refine a_l1 rfl rfl rfl ?_
  refine a_eSN0 rfl lX5_82 mo_X11_setAt (sp_X11_setAt rfl) rfl rfl rfl rfl ?_
  rw [setF_nI h6 (by decide)]
  refine a_l0 rfl rfl rfl ?_
  refine a_getq rfl gfX5_21_5 rfl (rfl) ?_
  refine a_l0 rfl rfl rfl ?_
  refine a_getiv (v := nI nd) rfl gfX5_63_5 rfl ((congrFun (up2_row (by decide)) 3).trans (h0)) ?_
  refine a_l2 rfl rfl rfl ?_
  refine a_eSN0 rfl lX5_82 mo_X11_setAt (sp_X11_setAt rfl) rfl rfl rfl rfl ?_
  rw [setF_nI h6 (by decide)]
  refine a_l0 rfl rfl rfl ?_
  refine a_getq rfl gfX5_24_5 rfl (rfl) ?_
  refine a_l0 rfl rfl rfl ?_
  refine a_getiv (v := nI nd) rfl gfX5_63_5 rfl ((congrFun (up2_row (by decide)) 3).trans ((congrFun (up2_row (by decide)) 3).trans (h0))) ?_
  refine a_l3 rfl rfl rfl ?_
  refine a_eSN0 rfl lX5_82 mo_X11_setAt (sp_X11_setAt rfl) rfl rfl rfl rfl ?_
  rw [setF_nI h6 (by decide)]
  refine a_l0 rfl rfl rfl ?_
  refine a_getq rfl gfX5_27_5 rfl (rfl) ?_
  refine a_l0 rfl rfl rfl ?_
  refine a_getiv (v := nI nd) rfl gfX5_63_5 rfl ((congrFun (up2_row (by decide)) 3).trans ((congrFun (up2_row (by decide)) 3).trans ((congrFun (up2_row (by decide)) 3).trans (h0)))) ?_
  refine a_l4 rfl rfl rfl ?_
  refine a_eSN0 rfl lX5_82 mo_X11_setAt (sp_X11_setAt rfl) rfl rfl rfl rfl ?_
  rw [setF_nI h6 (by decide)]
  refine a_l0 rfl rfl rfl ?_
  refine a_getq rfl gfX5_30_5 rfl (rfl) ?_
  refine a_l0 rfl rfl rfl ?_
  refine a_getiv (v := nI nd) rfl gfX5_63_5 rfl ((congrFun (up2_row (by decide)) 3).trans ((congrFun (up2_row (by decide)) 3).trans ((congrFun (up2_row (by decide)) 3).trans ((congrFun (up2_row (by decide)) 3).trans (h0))))) ?_
  refine a_l5 rfl rfl rfl ?_
  refine a_eSN0 rfl lX5_82 mo_X11_setAt (sp_X11_setAt rfl) rfl rfl rfl rfl ?_
  rw [setF_nI h6 (by decide)]
  refine a_l0 rfl rfl rfl ?_
  refine a_getq rfl gfX5_33_5 rfl (rfl) ?_
  refine a_l0 rfl rfl rfl ?_
  refine a_getiv (v := nI nd) rfl gfX5_63_5 rfl ((congrFun (up2_row (by decide)) 3).trans ((congrFun (up2_row (by decide)) 3).trans ((congrFun (up2_row (by decide)) 3).trans ((congrFun (up2_row (by decide)) 3).trans ((congrFun (up2_row (by decide)) 3).trans (h0)))))) ?_
  refine a_s rfl rfl ?_
  refine a_eSN0 rfl lX5_82 mo_X11_setAt (sp_X11_setAt rfl) rfl rfl rfl rfl ?_
  rw [setF_nI h6 (by decide)]
  refine a_l0 rfl rfl rfl ?_
  refine a_s rfl rfl ?_
  refine a_getiv (v := nI nd) rfl gfX5_63_5 rfl ((congrFun (up2_row (by decide)) 3).trans ((congrFun (up2_row (by decide)) 3).trans ((congrFun (up2_row (by decide)) 3).trans ((congrFun (up2_row (by decide)) 3).trans ((congrFun (up2_row (by decide)) 3).trans ((congrFun (up2_row (by decide)) 3).trans (h0))))))) ?_
  refine a_s rfl rfl ?_
  refine a_s rfl rfl ?_
  refine a_top (y := nI (nd + 1)) ((nI_succ nd).symm) ?_
  refine a_puti rfl pfX5_63_5 rfl ?_
  exact a_vret rfl rfl ⟨rfl, rfl⟩
theorem adH_fm {J : Nat → Nat → Int32} {nd : Nat} {x0 x1 x2 x3 x4 : Int32} (h : Fm sO I J) : Fm sO I (adH J nd x0 x1 x2 x3 x4) := Fm.up (Fm.up (Fm.up (Fm.up (Fm.up (Fm.up (Fm.up h rfl) rfl) rfl) rfl) rfl) rfl) rfl
theorem Sd.ad {nd : Nat} {x0 x1 x2 x3 x4 : Int32} (h : Sd I 209 W) (hn : dn W = nd) (h6 : nd < 12) : Sd (adH I nd x0 x1 x2 x3 x4) 209 (addDt W x0 x1 x2 x3 x4) := by
  subst hn
  exact Sd.pu (f := 3) (g := 1) (Sd.ro (k := 5) (Sd.ro (k := 4) (Sd.ro (k := 3) (Sd.ro (k := 2) (Sd.ro (k := 1) (Sd.ro (k := 0) h h6 (by decide)) h6 (by decide)) h6 (by decide)) h6 (by decide)) h6 (by decide)) h6 (by decide)) (by decide)
theorem s_readNumberOf (hw : WdS S) (h : Ats T e b w1 I) {k : Nat} (hk : k < 27) {lo hi : Int32} (h0 : 0 ≤ lo) : Sp S m_X6_readNumberOf 15 0 0 [.ref 203, .ref (100 + k), .int lo, .int hi] (hp I L w1 w2 t) (fun v h' => v = some (.int (nbP T e k lo hi b).1) ∧ ∃ J w, h' = hp J L w w2 t ∧ Ats T e (nbP T e k lo hi b).2 w J ∧ ∀ q, q ≠ 204 → J q = I q) nX := by
  refine Sp_of ok_X6_readNumberOf rfl rfl ?_
  show AW S m_X6_readNumberOf 15 _ _ 0 0 0 [some (.ref 203), some (.ref (100 + k)), some (.int lo), some (.int hi)] [] (hp I L w1 w2 t)
  refine a_l0 rfl rfl rfl ?_
  refine a_getq rfl gfX6_20_6 rfl (rfl) ?_
  refine a_l1 rfl rfl rfl ?_
  refine a_gV rfl lX6_55 mo_X9_takeWord (s_takeWord (k := k) hw h hk) rfl rfl rfl ⟨9, _, rfl, rfl, rfl⟩ rfl (fun v' h' hv => ?_)
  obtain ⟨rfl, J, w, rfl, hA, hf⟩ := hv
  cases c : isWd T e b k with
  | false =>
    rw [c, if_neg Bool.false_ne_true] at hA
    refine a_if_eq rfl (fun _ => ?_) (fun z => absurd rfl z)
    refine a_s rfl rfl ?_
    rw [nbP_f c]
    exact a_iret rfl rfl ⟨rfl, J, w, rfl, hA, hf⟩
  | true =>
    rw [c, if_pos rfl] at hA
    refine a_if_eq rfl (fun z => absurd z (by decide)) (fun _ => ?_)
    refine a_l0 rfl rfl rfl ?_
    refine a_getq rfl gfX6_20_6 rfl (rfl) ?_
    refine a_l2 rfl rfl rfl ?_
    refine a_l3 rfl rfl rfl ?_
    refine a_gV rfl lX6_149 mo_X9_takeNumber (s_takeNumber hw hA h0) rfl rfl rfl ⟨9, _, rfl, rfl, rfl⟩ rfl (fun v' h' hv => ?_)
    obtain ⟨rfl, J2, w3, rfl, hA2, hf2⟩ := hv
    refine a_goto rfl ?_
    rw [nbP_t c]
    by_cases cn : nm T e (nx T e b) lo hi = -1
    · rw [if_pos cn] at hA2 ⊢
      exact a_iret rfl rfl ⟨by rw [cn], J2, w3, rfl, hA2, fun q hq => (hf2 q hq).trans (hf q hq)⟩
    · rw [if_neg cn] at hA2 ⊢
      exact a_iret rfl rfl ⟨rfl, J2, w3, rfl, hA2, fun q hq => (hf2 q hq).trans (hf q hq)⟩
/-- of the draft, where a text is wrong -/
def Dk (J : Nat → Nat → Int32) : Prop := ∃ nd, nd ≤ 12 ∧ J 209 3 = nI nd
theorem Dk.sd {J : Nat → Nat → Int32} (h : Sd J 209 W) (hW : WOk W) : Dk J := ⟨dn W, hW.2.1, (Sd.fd h (f := 3) (g := 1) (by decide)).trans hW.2.2.2⟩
theorem Dk.nx {J : Nat → Nat → Int32} (h : Dk I) (f : ∀ q, q ≠ 204 → J q = I q) : Dk J := by
  obtain ⟨nd, h1, h2⟩ := h
  exact ⟨nd, h1, (congrFun (f 209 (by decide)) 3).trans h2⟩
theorem Dk.up {f : Nat} {v : Int32} (h : Dk I) (hf : 3 ≠ f) : Dk (up2 I 209 f v) := by
  obtain ⟨nd, h1, h2⟩ := h
  exact ⟨nd, h1, (up2_ne (Or.inr hf)).trans h2⟩
/-- a piece of a line, read as the function says -/
def QLs (T : Nat → Int32) (e : Nat) (r : SR) (I : Nat → Nat → Int32) (L : Nat → Nat → Int64) (w2 t : Nat) : Option Value → aH → Prop := fun v h' => v = some (.int (bI r.1)) ∧ ∃ J w, h' = hp J L w w2 t ∧ Fm sO I J ∧ Ats T e r.2.1 w J ∧ (r.1 = false → Dk J) ∧ (r.1 = true → Sd J 209 r.2.2)
theorem QLs.no {J : Nat → Nat → Int32} {p w : Nat} {W' : Nat → Int32} (F : Fm sO I J) (hA : Ats T e p w J) (hk : Dk J) : QLs T e (false, p, W') I L w2 t (some (.int 0)) (hp J L w w2 t) := ⟨rfl, J, w, rfl, F, hA, fun _ => hk, fun z => by cases z⟩
theorem QLs.yes {J : Nat → Nat → Int32} {p w : Nat} {W' : Nat → Int32} (F : Fm sO I J) (hA : Ats T e p w J) (hD : Sd J 209 W') : QLs T e (true, p, W') I L w2 t (some (.int 1)) (hp J L w w2 t) := ⟨rfl, J, w, rfl, F, hA, fun z => (by cases z), fun _ => hD⟩
theorem s_readPerson (hw : WdS S) (h : Ats T e b w1 I) (hD : Sd I 209 W) (hW : WOk W) (h6 : ¬ W 0 = 6) : Sp S m_X6_readPerson 17 0 0 [.ref 203] (hp I L w1 w2 t) (QLs T e (perB T e W (nbP T e 1 0 15 (nx T e b))) I L w2 t) nX := by
  have hp6 : pn W < 6 := by
    have := hW.1
    have : pn W ≠ 6 := fun z => h6 (by rw [hW.2.2.1, z]; rfl)
    omega
  refine Sp_of ok_X6_readPerson rfl rfl ?_
  show AW S m_X6_readPerson 17 _ _ 0 0 0 [some (.ref 203), none, none] [] (hp I L w1 w2 t)
  refine a_l0 rfl rfl rfl ?_
  refine a_getq rfl gfX6_20_6 rfl (rfl) ?_
  refine a_gV rfl lX6_65 mo_X9_next (sg_next hw h) rfl rfl rfl ⟨9, _, rfl, rfl, rfl⟩ rfl (fun v' h' hv => ?_)
  obtain ⟨rfl, J1, wa, rfl, hA1, hf1⟩ := hv
  refine a_l0 rfl rfl rfl ?_
  refine a_gets rfl (inC4 (i := 173) rfl rfl) (hw.st (i := 1) (by decide)) ?_
  refine a_s rfl rfl ?_
  refine a_s rfl rfl ?_
  refine a_gV rfl lX6_71 mo_X6_readNumberOf (s_readNumberOf (k := 1) (lo := 0) (hi := 15) hw hA1 (by decide) (by decide)) rfl rfl rfl ⟨6, _, rfl, rfl, rfl⟩ rfl (fun v' h' hv => ?_)
  obtain ⟨rfl, J2, wb, rfl, hA2, hf2⟩ := hv
  have F2 : Fm sO I J2 := Fms (Fms Fm.rf hf1) hf2
  generalize nbP T e 1 0 15 (nx T e b) = x at hA2 ⊢
  refine a_s1 rfl rfl rfl rfl rfl rfl ?_
  refine a_l1 rfl rfl rfl ?_
  refine a_s rfl rfl ?_
  refine a_ic_ne rfl (fun c1 => ?_) (fun c1 => ?_)
  rotate_left
  · refine a_s rfl rfl ?_
    rw [show perB T e W x = (false, x.2, W) from if_pos c1]
    exact a_zret rfl rfl rfl (QLs.no F2 hA2 (Dk.nx (Dk.nx (Dk.sd hD hW) hf1) hf2))
  rw [show perB T e W x = perC W x.1 (nbP T e 2 0 9 x.2) from if_neg c1]
  refine a_l0 rfl rfl rfl ?_
  refine a_gets rfl (inC4 (i := 181) rfl rfl) (hw.st (i := 2) (by decide)) ?_
  refine a_s rfl rfl ?_
  refine a_s rfl rfl ?_
  refine a_gV rfl lX6_71 mo_X6_readNumberOf (s_readNumberOf (k := 2) (lo := 0) (hi := 9) hw hA2 (by decide) (by decide)) rfl rfl rfl ⟨6, _, rfl, rfl, rfl⟩ rfl (fun v' h' hv => ?_)
  obtain ⟨rfl, J3, wc, rfl, hA3, hf3⟩ := hv
  have F3 : Fm sO I J3 := Fms F2 hf3
  have D3 : Sd J3 209 W := Sd.nx (Sd.nx (Sd.nx hD hf1) hf2) hf3
  generalize nbP T e 2 0 9 x.2 = y at hA3 ⊢
  refine a_s2 rfl rfl rfl rfl rfl rfl ?_
  refine a_l2 rfl rfl rfl ?_
  refine a_s rfl rfl ?_
  refine a_ic_ne rfl (fun c2 => ?_) (fun c2 => ?_)
  rotate_left
  · refine a_s rfl rfl ?_
    rw [show perC W x.1 y = (false, y.2, W) from if_pos c2]
    exact a_zret rfl rfl rfl (QLs.no F3 hA3 (Dk.sd D3 hW))
  rw [show perC W x.1 y = (true, y.2, addPs W x.1 y.1) from if_neg c2]
  refine a_l0 rfl rfl rfl ?_
  refine a_getq rfl gfX6_16_6 rfl (rfl) ?_
  refine a_l1 rfl rfl rfl ?_
  refine a_l2 rfl rfl rfl ?_
  refine a_eV0 rfl lX6_78 mo_X5_addPerson (s_addPerson ((Sd.fd D3 (f := 0) (g := 0) (by decide)).trans hW.2.2.1) hp6) rfl rfl rfl ⟨5, _, rfl, rfl, rfl⟩ rfl ?_
  refine a_s rfl rfl ?_
  exact a_zret rfl rfl rfl (QLs.yes (Fm.up (Fm.up (Fm.up F3 rfl) rfl) rfl) (Ats.eq hA3 fun q g1 g2 => by rw [up2_row (by omega), up2_row (by omega), up2_row (by omega)]) (Sd.pu (f := 0) (g := 0) (Sd.fr (Sd.kb D3 hp6) hp6) (by decide)))
theorem s_du161 (hW : WOk W) (h12 : ¬ W 1 = 12) {x0 x1 x2 x3 x4 : Int32} {p w : Nat} {J : Nat → Nat → Int32} (F : Fm sO I J) (hA : Ats T e p w J) (hD : Sd J 209 W) : AW S m_X6_readDuty 17 (QLs T e (true, p, addDt W x0 x1 x2 x3 x4) I L w2 t) nX 0 0 161 [some (.ref 203), some (.int x0), some (.int x1), some (.int x2), some (.int x3), some (.int x4)] [] (hp J L w w2 t) := by
  have hp6 : dn W < 12 := by
    have := hW.2.1
    have : dn W ≠ 12 := fun z => h12 (by rw [hW.2.2.2, z]; rfl)
    omega
  refine a_l0 rfl rfl rfl ?_
  refine a_getq rfl gfX6_16_6 rfl (rfl) ?_
  refine a_l1 rfl rfl rfl ?_
  refine a_l2 rfl rfl rfl ?_
  refine a_l3 rfl rfl rfl ?_
  refine a_l4 rfl rfl rfl ?_
  refine a_l5 rfl rfl rfl ?_
  refine a_eV0 rfl lX6_97 mo_X5_addDuty (s_addDuty ((Sd.fd hD (f := 3) (g := 1) (by decide)).trans hW.2.2.2) hp6) rfl rfl rfl ⟨5, _, rfl, rfl, rfl⟩ rfl ?_
  refine a_s rfl rfl ?_
  exact a_zret rfl rfl rfl (QLs.yes (adH_fm F) (Ats.eq hA fun q g1 g2 => by unfold adH; rw [up2_row (by omega), up2_row (by omega), up2_row (by omega), up2_row (by omega), up2_row (by omega), up2_row (by omega), up2_row (by omega)]) (Sd.ad hD rfl hp6))
theorem s_du118 (hw : WdS S) (hW : WOk W) (h12 : ¬ W 1 = 12) {x0 x1 x2 x3 : Int32} {p w : Nat} {J : Nat → Nat → Int32} (F : Fm sO I J) (hA : Ats T e p w J) (hD : Sd J 209 W) : AW S m_X6_readDuty 17 (QLs T e (duE W x0 x1 x2 x3 (optP T e 8 0 (W 1 - 1) (-1) p)) I L w2 t) nX 0 0 118 [some (.ref 203), some (.int x0), some (.int x1), some (.int x2), some (.int x3), none] [] (hp J L w w2 t) := by
  refine a_s rfl rfl ?_
  refine a_s5 rfl rfl rfl rfl rfl rfl ?_
  refine a_l0 rfl rfl rfl ?_
  refine a_getq rfl gfX6_20_6 rfl (rfl) ?_
  refine a_getr rfl gfX6_24_9 rfl ?_
  refine a_pop1 (show _ = rv w :: _ from rfl) ?_
  refine a_gets rfl (inC4 (i := 201) rfl rfl) (hw.st (i := 8) (by decide)) ?_
  refine a_acmp_ne (rx := w) (ry := 100 + 8 + 1) rfl ((Ats.wk hA).ac hw) (WK.ck hw (i := 8) (by decide)) (fun c => ?_) (fun c => ?_)
  · have d1 : isWd T e p 8 = false := Bool.eq_false_iff.mpr fun z => c ((Ats.wo hA).trans ((wr_is (by decide)).mpr z))
    rw [show optP T e 8 0 (W 1 - 1) (-1) p = (true, (-1), p) from if_neg (by rw [d1]; exact Bool.false_ne_true)]
    rw [show duE W x0 x1 x2 x3 (true, (-1), p) = (true, p, addDt W x0 x1 x2 x3 (-1)) from if_pos rfl]
    exact s_du161 hW h12 F hA hD
  · have d1 : isWd T e p 8 = true := (wr_is (by decide)).mp ((Ats.wo hA).symm.trans c)
    refine a_l0 rfl rfl rfl ?_
    refine a_gets rfl (inC4 (i := 201) rfl rfl) (hw.st (i := 8) (by decide)) ?_
    refine a_s rfl rfl ?_
    refine a_l0 rfl rfl rfl ?_
    refine a_getq rfl gfX6_16_6 rfl (rfl) ?_
    refine a_getiv (v := nI (dn W)) rfl gfX6_46_5 rfl ((Sd.fd hD (f := 3) (g := 1) (by decide)).trans hW.2.2.2) ?_
    refine a_s rfl rfl ?_
    refine a_s rfl rfl ?_
    refine a_top (y := W 1 - 1) (by rw [hW.2.2.2]) ?_
    refine a_gV rfl lX6_71 mo_X6_readNumberOf (s_readNumberOf (k := 8) (lo := 0) (hi := (W 1 - 1)) hw hA (by decide) (by decide)) rfl rfl rfl ⟨6, _, rfl, rfl, rfl⟩ rfl (fun v' h' hv => ?_)
    obtain ⟨rfl, J2, w', rfl, hA2, hf2⟩ := hv
    rw [nbP_t d1] at hA2 ⊢
    by_cases cn : nm T e (nx T e p) 0 (W 1 - 1) = -1
    · rw [if_pos cn] at hA2 ⊢
      rw [show optP T e 8 0 (W 1 - 1) (-1) p = (false, -1, nx T e p) from (if_pos d1).trans (if_pos cn)]
      refine a_s5 rfl rfl rfl rfl rfl rfl ?_
      refine a_l5 rfl rfl rfl ?_
      refine a_s rfl rfl ?_
      refine a_ic_ne rfl (fun z => absurd rfl z) (fun _ => ?_)
      refine a_s rfl rfl ?_
      rw [show duE W x0 x1 x2 x3 (false, -1, nx T e p) = (false, nx T e p, W) from if_neg Bool.false_ne_true]
      exact a_zret rfl rfl rfl (QLs.no (Fms F hf2) hA2 (Dk.nx (Dk.sd hD hW) hf2))
    · rw [if_neg cn] at hA2 ⊢
      rw [show optP T e 8 0 (W 1 - 1) (-1) p = (true, nm T e (nx T e p) 0 (W 1 - 1), nx T e (nx T e p)) from (if_pos d1).trans (if_neg cn)]
      refine a_s5 rfl rfl rfl rfl rfl rfl ?_
      refine a_l5 rfl rfl rfl ?_
      refine a_s rfl rfl ?_
      refine a_ic_ne rfl (fun _ => ?_) (fun z => absurd z cn)
      rw [show duE W x0 x1 x2 x3 (true, nm T e (nx T e p) 0 (W 1 - 1), nx T e (nx T e p)) = (true, nx T e (nx T e p), addDt W x0 x1 x2 x3 (nm T e (nx T e p) 0 (W 1 - 1))) from if_pos rfl]
      exact s_du161 hW h12 (Fms F hf2) hA2 (Sd.nx hD hf2)
theorem s_du83 (hw : WdS S) (hW : WOk W) (h12 : ¬ W 1 = 12) {x0 x1 x2 : Int32} {p w : Nat} {J : Nat → Nat → Int32} (F : Fm sO I J) (hA : Ats T e p w J) (hD : Sd J 209 W) : AW S m_X6_readDuty 17 (QLs T e (duD T e W x0 x1 x2 (optP T e 7 0 5 (-1) p)) I L w2 t) nX 0 0 83 [some (.ref 203), some (.int x0), some (.int x1), some (.int x2), none, none] [] (hp J L w w2 t) := by
  refine a_s rfl rfl ?_
  refine a_s4 rfl rfl rfl rfl rfl rfl ?_
  refine a_l0 rfl rfl rfl ?_
  refine a_getq rfl gfX6_20_6 rfl (rfl) ?_
  refine a_getr rfl gfX6_24_9 rfl ?_
  refine a_pop1 (show _ = rv w :: _ from rfl) ?_
  refine a_gets rfl (inC4 (i := 199) rfl rfl) (hw.st (i := 7) (by decide)) ?_
  refine a_acmp_ne (rx := w) (ry := 100 + 7 + 1) rfl ((Ats.wk hA).ac hw) (WK.ck hw (i := 7) (by decide)) (fun c => ?_) (fun c => ?_)
  · have d1 : isWd T e p 7 = false := Bool.eq_false_iff.mpr fun z => c ((Ats.wo hA).trans ((wr_is (by decide)).mpr z))
    rw [show optP T e 7 0 5 (-1) p = (true, (-1), p) from if_neg (by rw [d1]; exact Bool.false_ne_true)]
    rw [show duD T e W x0 x1 x2 (true, (-1), p) = duE W x0 x1 x2 (-1) (optP T e 8 0 (W 1 - 1) (-1) (p)) from if_pos rfl]
    exact s_du118 hw hW h12 F hA hD
  · have d1 : isWd T e p 7 = true := (wr_is (by decide)).mp ((Ats.wo hA).symm.trans c)
    refine a_l0 rfl rfl rfl ?_
    refine a_gets rfl (inC4 (i := 199) rfl rfl) (hw.st (i := 7) (by decide)) ?_
    refine a_s rfl rfl ?_
    refine a_s rfl rfl ?_
    refine a_gV rfl lX6_71 mo_X6_readNumberOf (s_readNumberOf (k := 7) (lo := 0) (hi := 5) hw hA (by decide) (by decide)) rfl rfl rfl ⟨6, _, rfl, rfl, rfl⟩ rfl (fun v' h' hv => ?_)
    obtain ⟨rfl, J2, w', rfl, hA2, hf2⟩ := hv
    rw [nbP_t d1] at hA2 ⊢
    by_cases cn : nm T e (nx T e p) 0 5 = -1
    · rw [if_pos cn] at hA2 ⊢
      rw [show optP T e 7 0 5 (-1) p = (false, -1, nx T e p) from (if_pos d1).trans (if_pos cn)]
      refine a_s4 rfl rfl rfl rfl rfl rfl ?_
      refine a_l4 rfl rfl rfl ?_
      refine a_s rfl rfl ?_
      refine a_ic_ne rfl (fun z => absurd rfl z) (fun _ => ?_)
      refine a_s rfl rfl ?_
      rw [show duD T e W x0 x1 x2 (false, -1, nx T e p) = (false, nx T e p, W) from if_neg Bool.false_ne_true]
      exact a_zret rfl rfl rfl (QLs.no (Fms F hf2) hA2 (Dk.nx (Dk.sd hD hW) hf2))
    · rw [if_neg cn] at hA2 ⊢
      rw [show optP T e 7 0 5 (-1) p = (true, nm T e (nx T e p) 0 5, nx T e (nx T e p)) from (if_pos d1).trans (if_neg cn)]
      refine a_s4 rfl rfl rfl rfl rfl rfl ?_
      refine a_l4 rfl rfl rfl ?_
      refine a_s rfl rfl ?_
      refine a_ic_ne rfl (fun _ => ?_) (fun z => absurd z cn)
      rw [show duD T e W x0 x1 x2 (true, nm T e (nx T e p) 0 5, nx T e (nx T e p)) = duE W x0 x1 x2 (nm T e (nx T e p) 0 5) (optP T e 8 0 (W 1 - 1) (-1) (nx T e (nx T e p))) from if_pos rfl]
      exact s_du118 hw hW h12 (Fms F hf2) hA2 (Sd.nx hD hf2)
theorem s_du50 (hw : WdS S) (hW : WOk W) (h12 : ¬ W 1 = 12) {x0 x1 : Int32} {p w : Nat} {J : Nat → Nat → Int32} (F : Fm sO I J) (hA : Ats T e p w J) (hD : Sd J 209 W) : AW S m_X6_readDuty 17 (QLs T e (duC T e W x0 x1 (optP T e 6 0 99 0 p)) I L w2 t) nX 0 0 50 [some (.ref 203), some (.int x0), some (.int x1), none, none, none] [] (hp J L w w2 t) := by
  refine a_s rfl rfl ?_
  refine a_s3 rfl rfl rfl rfl rfl rfl ?_
  refine a_l0 rfl rfl rfl ?_
  refine a_getq rfl gfX6_20_6 rfl (rfl) ?_
  refine a_getr rfl gfX6_24_9 rfl ?_
  refine a_pop1 (show _ = rv w :: _ from rfl) ?_
  refine a_gets rfl (inC4 (i := 197) rfl rfl) (hw.st (i := 6) (by decide)) ?_
  refine a_acmp_ne (rx := w) (ry := 100 + 6 + 1) rfl ((Ats.wk hA).ac hw) (WK.ck hw (i := 6) (by decide)) (fun c => ?_) (fun c => ?_)
  · have d1 : isWd T e p 6 = false := Bool.eq_false_iff.mpr fun z => c ((Ats.wo hA).trans ((wr_is (by decide)).mpr z))
    rw [show optP T e 6 0 99 0 p = (true, 0, p) from if_neg (by rw [d1]; exact Bool.false_ne_true)]
    rw [show duC T e W x0 x1 (true, 0, p) = duD T e W x0 x1 (0) (optP T e 7 0 5 (-1) (p)) from if_pos rfl]
    exact s_du83 hw hW h12 F hA hD
  · have d1 : isWd T e p 6 = true := (wr_is (by decide)).mp ((Ats.wo hA).symm.trans c)
    refine a_l0 rfl rfl rfl ?_
    refine a_gets rfl (inC4 (i := 197) rfl rfl) (hw.st (i := 6) (by decide)) ?_
    refine a_s rfl rfl ?_
    refine a_s rfl rfl ?_
    refine a_gV rfl lX6_71 mo_X6_readNumberOf (s_readNumberOf (k := 6) (lo := 0) (hi := 99) hw hA (by decide) (by decide)) rfl rfl rfl ⟨6, _, rfl, rfl, rfl⟩ rfl (fun v' h' hv => ?_)
    obtain ⟨rfl, J2, w', rfl, hA2, hf2⟩ := hv
    rw [nbP_t d1] at hA2 ⊢
    by_cases cn : nm T e (nx T e p) 0 99 = -1
    · rw [if_pos cn] at hA2 ⊢
      rw [show optP T e 6 0 99 0 p = (false, -1, nx T e p) from (if_pos d1).trans (if_pos cn)]
      refine a_s3 rfl rfl rfl rfl rfl rfl ?_
      refine a_l3 rfl rfl rfl ?_
      refine a_s rfl rfl ?_
      refine a_ic_ne rfl (fun z => absurd rfl z) (fun _ => ?_)
      refine a_s rfl rfl ?_
      rw [show duC T e W x0 x1 (false, -1, nx T e p) = (false, nx T e p, W) from if_neg Bool.false_ne_true]
      exact a_zret rfl rfl rfl (QLs.no (Fms F hf2) hA2 (Dk.nx (Dk.sd hD hW) hf2))
    · rw [if_neg cn] at hA2 ⊢
      rw [show optP T e 6 0 99 0 p = (true, nm T e (nx T e p) 0 99, nx T e (nx T e p)) from (if_pos d1).trans (if_neg cn)]
      refine a_s3 rfl rfl rfl rfl rfl rfl ?_
      refine a_l3 rfl rfl rfl ?_
      refine a_s rfl rfl ?_
      refine a_ic_ne rfl (fun _ => ?_) (fun z => absurd z cn)
      rw [show duC T e W x0 x1 (true, nm T e (nx T e p) 0 99, nx T e (nx T e p)) = duD T e W x0 x1 (nm T e (nx T e p) 0 99) (optP T e 7 0 5 (-1) (nx T e (nx T e p))) from if_pos rfl]
      exact s_du83 hw hW h12 (Fms F hf2) hA2 (Sd.nx hD hf2)
theorem s_readDuty (hw : WdS S) (h : Ats T e b w1 I) (hD : Sd I 209 W) (hW : WOk W) (h12 : ¬ W 1 = 12) : Sp S m_X6_readDuty 17 0 0 [.ref 203] (hp I L w1 w2 t) (QLs T e (duA T e W (nbP T e 4 0 (W 0 - 1) (nx T e b))) I L w2 t) nX := by
  refine Sp_of ok_X6_readDuty rfl rfl ?_
  show AW S m_X6_readDuty 17 _ _ 0 0 0 [some (.ref 203), none, none, none, none, none] [] (hp I L w1 w2 t)
  refine a_l0 rfl rfl rfl ?_
  refine a_getq rfl gfX6_20_6 rfl (rfl) ?_
  refine a_gV rfl lX6_65 mo_X9_next (sg_next hw h) rfl rfl rfl ⟨9, _, rfl, rfl, rfl⟩ rfl (fun v' h' hv => ?_)
  obtain ⟨rfl, J1, wa, rfl, hA1, hf1⟩ := hv
  refine a_l0 rfl rfl rfl ?_
  refine a_gets rfl (inC4 (i := 193) rfl rfl) (hw.st (i := 4) (by decide)) ?_
  refine a_s rfl rfl ?_
  refine a_l0 rfl rfl rfl ?_
  refine a_getq rfl gfX6_16_6 rfl (rfl) ?_
  refine a_getiv (v := nI (pn W)) rfl gfX6_35_5 rfl ((Sd.fd (Sd.nx hD hf1) (f := 0) (g := 0) (by decide)).trans hW.2.2.1) ?_
  refine a_s rfl rfl ?_
  refine a_s rfl rfl ?_
  refine a_top (y := W 0 - 1) (by rw [hW.2.2.1]) ?_
  refine a_gV rfl lX6_71 mo_X6_readNumberOf (s_readNumberOf (k := 4) (lo := 0) (hi := W 0 - 1) hw hA1 (by decide) (by decide)) rfl rfl rfl ⟨6, _, rfl, rfl, rfl⟩ rfl (fun v' h' hv => ?_)
  obtain ⟨rfl, J2, wb, rfl, hA2, hf2⟩ := hv
  have F2 : Fm sO I J2 := Fms (Fms Fm.rf hf1) hf2
  generalize nbP T e 4 0 (W 0 - 1) (nx T e b) = x at hA2 ⊢
  refine a_s1 rfl rfl rfl rfl rfl rfl ?_
  refine a_l1 rfl rfl rfl ?_
  refine a_s rfl rfl ?_
  refine a_ic_ne rfl (fun c1 => ?_) (fun c1 => ?_)
  rotate_left
  · refine a_s rfl rfl ?_
    rw [show duA T e W x = (false, x.2, W) from if_pos c1]
    exact a_zret rfl rfl rfl (QLs.no F2 hA2 (Dk.nx (Dk.nx (Dk.sd hD hW) hf1) hf2))
  rw [show duA T e W x = duB T e W x.1 (nbP T e 5 1 99 x.2) from if_neg c1]
  refine a_l0 rfl rfl rfl ?_
  refine a_gets rfl (inC4 (i := 195) rfl rfl) (hw.st (i := 5) (by decide)) ?_
  refine a_s rfl rfl ?_
  refine a_s rfl rfl ?_
  refine a_gV rfl lX6_71 mo_X6_readNumberOf (s_readNumberOf (k := 5) (lo := 1) (hi := 99) hw hA2 (by decide) (by decide)) rfl rfl rfl ⟨6, _, rfl, rfl, rfl⟩ rfl (fun v' h' hv => ?_)
  obtain ⟨rfl, J3, wc, rfl, hA3, hf3⟩ := hv
  have F3 : Fm sO I J3 := Fms F2 hf3
  have D3 : Sd J3 209 W := Sd.nx (Sd.nx (Sd.nx hD hf1) hf2) hf3
  generalize nbP T e 5 1 99 x.2 = y at hA3 ⊢
  refine a_s2 rfl rfl rfl rfl rfl rfl ?_
  refine a_l2 rfl rfl rfl ?_
  refine a_s rfl rfl ?_
  refine a_ic_ne rfl (fun c2 => ?_) (fun c2 => ?_)
  rotate_left
  · refine a_s rfl rfl ?_
    rw [show duB T e W x.1 y = (false, y.2, W) from if_pos c2]
    exact a_zret rfl rfl rfl (QLs.no F3 hA3 (Dk.sd D3 hW))
  rw [show duB T e W x.1 y = duC T e W x.1 y.1 (optP T e 6 0 99 0 y.2) from if_neg c2]
  exact s_du50 hw hW h12 F3 hA3 D3
theorem waitF_out {nd : Nat} {st : Nat → Int32} {v : Int32} (hn : nd ≤ 12) (h : ¬ (0 ≤ v ∧ v ≤ nI nd - 1)) : waitF nd st v = false := by
  refine decide_eq_false fun z => h ?_
  obtain ⟨z1, z2, -⟩ := z
  have z1 := Int32.not_lt.mp z1
  refine ⟨z1, ?_⟩
  have z2 := Int32.not_le.mp z2
  rcases nd with _ | n
  · exact absurd (Int32.lt_of_le_of_lt z1 z2) (by decide)
  · rw [nI_dec, Int32.le_iff_toInt_le, nI_toInt (by omega)]
    rw [Int32.lt_iff_toInt_lt, nI_toInt (by omega)] at z2
    omega
theorem s_readForgotten (hw : WdS S) (h : Ats T e b w1 I) (hD : Sd I 209 W) (hW : WOk W) : Sp S m_X6_readForgotten 16 0 0 [.ref 203] (hp I L w1 w2 t) (QLs T e (forP T e b W) I L w2 t) nX := by
  have hnd : I 209 3 = nI (dn W) := (Sd.fd hD (f := 3) (g := 1) (by decide)).trans hW.2.2.2
  have h12 := hW.2.1
  have k4 := kd_4 (T := T) (e := e) (b := b) rfl
  refine Sp_of ok_X6_readForgotten rfl rfl ?_
  show AW S m_X6_readForgotten 16 _ _ 0 0 0 [some (.ref 203)] [] (hp I L w1 w2 t)
  refine a_l0 rfl rfl rfl ?_
  refine a_getq rfl gfX6_20_6 rfl (rfl) ?_
  refine a_getiv (v := nI (kd T e b)) rfl gfX6_101_9 rfl (Ats.ki h) ?_
  refine a_s rfl rfl ?_
  have no : forP T e b W = (false, b, W) → AW S m_X6_readForgotten 16 (QLs T e (forP T e b W) I L w2 t) nX 0 0 28 [some (.ref 203)] [] (hp I L w1 w2 t) := fun ef => by
    rw [ef]
    refine a_s rfl rfl ?_
    exact a_zret rfl rfl rfl (QLs.no Fm.rf h (Dk.sd hD hW))
  refine a_ic_ne rfl (fun c => ?_) (fun c => ?_)
  · exact no (if_pos (if_neg fun z => c (congrArg nI z.1)))
  have hk : kd T e b = 2 := nI_inj (by omega) (by decide) c
  refine a_l0 rfl rfl rfl ?_
  refine a_getq rfl gfX6_16_6 rfl (rfl) ?_
  refine a_l0 rfl rfl rfl ?_
  refine a_getq rfl gfX6_20_6 rfl (rfl) ?_
  refine a_getiv (v := vl T e b) rfl gfX6_104_9 rfl (Ats.va h) ?_
  refine a_eV1 rfl lX6_107 mo_X5_isWaiting (sp_X5_isWaiting (a := 209) (by decide) hnd h12) rfl rfl rfl ⟨5, _, rfl, rfl, rfl⟩ rfl ?_
  by_cases cn : nm T e b 0 (W 1 - 1) = -1
  · have cw : waitF (dn W) (I (209 + 8)) (vl T e b) = false := waitF_out h12 fun z => by
      rw [← hW.2.2.2] at z
      have e9 : nm T e b 0 (W 1 - 1) = vl T e b := if_pos ⟨hk, z⟩
      rw [← e9, cn] at z
      exact absurd z.1 (by decide)
    rw [cw]
    refine a_if_ne rfl (fun z => absurd rfl z) (fun _ => ?_)
    exact no (if_pos cn)
  · obtain ⟨j, hj, ej⟩ := nm_ix h12 (by rw [← hW.2.2.2]; exact cn)
    rw [← hW.2.2.2] at ej
    have ev : vl T e b = nI j := (nm_in cn).2.2.2.symm.trans ej
    have es : I (209 + 8) j = W (23 + 6 * j + 5) := hD.2.2 j (by omega) 5 (by decide)
    rw [show waitF (dn W) (I (209 + 8)) (vl T e b) = decide (W (23 + 6 * j + 5) = 0) by rw [ev, waitF_nI hj h12, es]]
    by_cases cw : W (23 + 6 * j + 5) = 0
    · rw [decide_eq_true cw]
      refine a_if_ne rfl (fun _ => ?_) (fun z => absurd z (by decide))
      have ef : forP T e b W = (true, nx T e b, ud W (23 + 6 * j + 5) 2) := by
        unfold forP
        rw [if_neg cn, ej, nI_clamp (by omega), if_pos cw]
      rw [ef]
      refine a_l0 rfl rfl rfl ?_
      refine a_getq rfl gfX6_16_6 rfl (rfl) ?_
      refine a_getq rfl gfX6_111_5 rfl (rfl) ?_
      refine a_l0 rfl rfl rfl ?_
      refine a_getq rfl gfX6_20_6 rfl (rfl) ?_
      refine a_getiv (v := nI j) rfl gfX6_104_9 rfl ((Ats.va h).trans ev) ?_
      refine a_s rfl rfl ?_
      refine a_eSN0 rfl lX6_115 mo_X11_setAt (sp_X11_setAt rfl) rfl rfl rfl rfl ?_
      rw [setF_nI (show j < 12 by omega) (by decide)]
      refine a_l0 rfl rfl rfl ?_
      refine a_getq rfl gfX6_20_6 rfl (rfl) ?_
      refine a_gV rfl lX6_65 mo_X9_next (sg_next hw (Ats.eq (J := up2 I 217 j 2) h fun q g1 g2 => up2_row (by omega))) rfl rfl rfl ⟨9, _, rfl, rfl, rfl⟩ rfl (fun v' h' hv => ?_)
      obtain ⟨rfl, J, w, rfl, hA1, hf1⟩ := hv
      refine a_s rfl rfl ?_
      exact a_zret rfl rfl rfl (QLs.yes (Fms (Fm.up Fm.rf rfl) hf1) hA1 (Sd.nx (Sd.ro (k := 5) hD (by omega) (by decide)) hf1))
    · rw [decide_eq_false cw]
      refine a_if_ne rfl (fun z => absurd rfl z) (fun _ => ?_)
      refine no ?_
      unfold forP
      rw [if_neg cn, ej, nI_clamp (by omega), if_neg cw]
theorem s_readSetting (hw : WdS S) (h : Ats T e b w1 I) (hD : Sd I 209 W) (hW : WOk W) : Sp S m_X6_readSetting 16 0 0 [.ref 203] (hp I L w1 w2 t) (QLs T e (stgP T e b W) I L w2 t) nX := by
  refine Sp_of ok_X6_readSetting rfl rfl ?_
  show AW S m_X6_readSetting 16 _ _ 0 0 0 [some (.ref 203)] [] (hp I L w1 w2 t)
  unfold stgP
  refine a_l0 rfl rfl rfl ?_
  refine a_getq rfl gfX6_20_6 rfl (rfl) ?_
  refine a_getr rfl gfX6_24_9 rfl ?_
  refine a_pop1 (show _ = rv w1 :: _ from rfl) ?_
  refine a_gets rfl (inC4 (i := 219) rfl rfl) (hw.st (i := 10) (by decide)) ?_
  refine a_acmp_ne (rx := w1) (ry := 100 + 10 + 1) rfl ((Ats.wk h).ac hw) (WK.ck hw (i := 10) (by decide)) (fun c => ?_) (fun c => ?_)
  rotate_left
  · have d1 : isWd T e b 10 = true := (wr_is (by decide)).mp ((Ats.wo h).symm.trans c)
    rw [if_pos d1]
    refine a_l0 rfl rfl rfl ?_
    refine a_getq rfl gfX6_16_6 rfl (rfl) ?_
    refine a_l0 rfl rfl rfl ?_
    refine a_gets rfl (inC4 (i := 219) rfl rfl) (hw.st (i := 10) (by decide)) ?_
    refine a_s rfl rfl ?_
    refine a_s rfl rfl ?_
    refine a_gV rfl lX6_71 mo_X6_readNumberOf (s_readNumberOf (k := 10) (lo := 0) (hi := 100) hw h (by decide) (by decide)) rfl rfl rfl ⟨6, _, rfl, rfl, rfl⟩ rfl (fun v' h' hv => ?_)
    obtain ⟨rfl, J, w, rfl, hA, hf⟩ := hv
    rw [nbP_t d1] at hA ⊢
    by_cases cn : nm T e (nx T e b) 0 100 = -1
    · rw [if_pos cn] at hA ⊢
      refine a_puti rfl pfX6_122_5 rfl ?_
      refine a_l0 rfl rfl rfl ?_
      refine a_getq rfl gfX6_16_6 rfl (rfl) ?_
      refine a_getiv (v := (-1)) rfl gfX6_122_5 rfl (up2_at) ?_
      refine a_s rfl rfl ?_
      refine a_ic_eq rfl (fun _ => ?_) (fun z => absurd rfl z)
      refine a_s rfl rfl ?_
      rw [show setP T e (nx T e b) W 6 0 100 = (false, nx T e b, W) from if_pos cn]
      exact a_zret rfl rfl rfl (QLs.no (Fm.up (Fms Fm.rf hf) rfl) (Ats.eq hA fun q g1 g2 => up2_row (by omega)) (Dk.up (Dk.nx (Dk.sd hD hW) hf) (by decide)))
    · rw [if_neg cn] at hA ⊢
      refine a_puti rfl pfX6_122_5 rfl ?_
      refine a_l0 rfl rfl rfl ?_
      refine a_getq rfl gfX6_16_6 rfl (rfl) ?_
      refine a_getiv (v := nm T e (nx T e b) 0 100) rfl gfX6_122_5 rfl (up2_at) ?_
      refine a_s rfl rfl ?_
      refine a_ic_eq rfl (fun z => absurd z cn) (fun _ => ?_)
      refine a_s rfl rfl ?_
      refine a_goto rfl ?_
      rw [show setP T e (nx T e b) W 6 0 100 = (true, nx T e (nx T e b), ud W 6 (nm T e (nx T e b) 0 100)) from if_neg cn]
      exact a_zret rfl rfl rfl (QLs.yes (Fm.up (Fms Fm.rf hf) rfl) (Ats.eq hA fun q g1 g2 => up2_row (by omega)) (Sd.pu (f := 12) (g := 6) (Sd.nx hD hf) (by decide)))
  rw [if_neg (c := isWd T e b 10 = true) (fun z => c ((Ats.wo h).trans ((wr_is (by decide)).mpr z)))]
  refine a_l0 rfl rfl rfl ?_
  refine a_getq rfl gfX6_20_6 rfl (rfl) ?_
  refine a_getr rfl gfX6_24_9 rfl ?_
  refine a_pop1 (show _ = rv w1 :: _ from rfl) ?_
  refine a_gets rfl (inC4 (i := 221) rfl rfl) (hw.st (i := 11) (by decide)) ?_
  refine a_acmp_ne (rx := w1) (ry := 100 + 11 + 1) rfl ((Ats.wk h).ac hw) (WK.ck hw (i := 11) (by decide)) (fun c => ?_) (fun c => ?_)
  rotate_left
  · have d1 : isWd T e b 11 = true := (wr_is (by decide)).mp ((Ats.wo h).symm.trans c)
    rw [if_pos d1]
    refine a_l0 rfl rfl rfl ?_
    refine a_getq rfl gfX6_16_6 rfl (rfl) ?_
    refine a_l0 rfl rfl rfl ?_
    refine a_gets rfl (inC4 (i := 221) rfl rfl) (hw.st (i := 11) (by decide)) ?_
    refine a_s rfl rfl ?_
    refine a_s rfl rfl ?_
    refine a_gV rfl lX6_71 mo_X6_readNumberOf (s_readNumberOf (k := 11) (lo := 1) (hi := 9) hw h (by decide) (by decide)) rfl rfl rfl ⟨6, _, rfl, rfl, rfl⟩ rfl (fun v' h' hv => ?_)
    obtain ⟨rfl, J, w, rfl, hA, hf⟩ := hv
    rw [nbP_t d1] at hA ⊢
    by_cases cn : nm T e (nx T e b) 1 9 = -1
    · rw [if_pos cn] at hA ⊢
      refine a_puti rfl pfX6_128_5 rfl ?_
      refine a_l0 rfl rfl rfl ?_
      refine a_getq rfl gfX6_16_6 rfl (rfl) ?_
      refine a_getiv (v := (-1)) rfl gfX6_128_5 rfl (up2_at) ?_
      refine a_s rfl rfl ?_
      refine a_ic_eq rfl (fun _ => ?_) (fun z => absurd rfl z)
      refine a_s rfl rfl ?_
      rw [show setP T e (nx T e b) W 7 1 9 = (false, nx T e b, W) from if_pos cn]
      exact a_zret rfl rfl rfl (QLs.no (Fm.up (Fms Fm.rf hf) rfl) (Ats.eq hA fun q g1 g2 => up2_row (by omega)) (Dk.up (Dk.nx (Dk.sd hD hW) hf) (by decide)))
    · rw [if_neg cn] at hA ⊢
      refine a_puti rfl pfX6_128_5 rfl ?_
      refine a_l0 rfl rfl rfl ?_
      refine a_getq rfl gfX6_16_6 rfl (rfl) ?_
      refine a_getiv (v := nm T e (nx T e b) 1 9) rfl gfX6_128_5 rfl (up2_at) ?_
      refine a_s rfl rfl ?_
      refine a_ic_eq rfl (fun z => absurd z cn) (fun _ => ?_)
      refine a_s rfl rfl ?_
      refine a_goto rfl ?_
      rw [show setP T e (nx T e b) W 7 1 9 = (true, nx T e (nx T e b), ud W 7 (nm T e (nx T e b) 1 9)) from if_neg cn]
      exact a_zret rfl rfl rfl (QLs.yes (Fm.up (Fms Fm.rf hf) rfl) (Ats.eq hA fun q g1 g2 => up2_row (by omega)) (Sd.pu (f := 13) (g := 7) (Sd.nx hD hf) (by decide)))
  rw [if_neg (c := isWd T e b 11 = true) (fun z => c ((Ats.wo h).trans ((wr_is (by decide)).mpr z)))]
  refine a_l0 rfl rfl rfl ?_
  refine a_getq rfl gfX6_20_6 rfl (rfl) ?_
  refine a_getr rfl gfX6_24_9 rfl ?_
  refine a_pop1 (show _ = rv w1 :: _ from rfl) ?_
  refine a_gets rfl (inC4 (i := 223) rfl rfl) (hw.st (i := 12) (by decide)) ?_
  refine a_acmp_ne (rx := w1) (ry := 100 + 12 + 1) rfl ((Ats.wk h).ac hw) (WK.ck hw (i := 12) (by decide)) (fun c => ?_) (fun c => ?_)
  rotate_left
  · have d1 : isWd T e b 12 = true := (wr_is (by decide)).mp ((Ats.wo h).symm.trans c)
    rw [if_pos d1]
    refine a_l0 rfl rfl rfl ?_
    refine a_getq rfl gfX6_16_6 rfl (rfl) ?_
    refine a_l0 rfl rfl rfl ?_
    refine a_gets rfl (inC4 (i := 223) rfl rfl) (hw.st (i := 12) (by decide)) ?_
    refine a_s rfl rfl ?_
    refine a_s rfl rfl ?_
    refine a_gV rfl lX6_71 mo_X6_readNumberOf (s_readNumberOf (k := 12) (lo := 0) (hi := 50) hw h (by decide) (by decide)) rfl rfl rfl ⟨6, _, rfl, rfl, rfl⟩ rfl (fun v' h' hv => ?_)
    obtain ⟨rfl, J, w, rfl, hA, hf⟩ := hv
    rw [nbP_t d1] at hA ⊢
    by_cases cn : nm T e (nx T e b) 0 50 = -1
    · rw [if_pos cn] at hA ⊢
      refine a_puti rfl pfX6_134_5 rfl ?_
      refine a_l0 rfl rfl rfl ?_
      refine a_getq rfl gfX6_16_6 rfl (rfl) ?_
      refine a_getiv (v := (-1)) rfl gfX6_134_5 rfl (up2_at) ?_
      refine a_s rfl rfl ?_
      refine a_ic_eq rfl (fun _ => ?_) (fun z => absurd rfl z)
      refine a_s rfl rfl ?_
      rw [show setP T e (nx T e b) W 8 0 50 = (false, nx T e b, W) from if_pos cn]
      exact a_zret rfl rfl rfl (QLs.no (Fm.up (Fms Fm.rf hf) rfl) (Ats.eq hA fun q g1 g2 => up2_row (by omega)) (Dk.up (Dk.nx (Dk.sd hD hW) hf) (by decide)))
    · rw [if_neg cn] at hA ⊢
      refine a_puti rfl pfX6_134_5 rfl ?_
      refine a_l0 rfl rfl rfl ?_
      refine a_getq rfl gfX6_16_6 rfl (rfl) ?_
      refine a_getiv (v := nm T e (nx T e b) 0 50) rfl gfX6_134_5 rfl (up2_at) ?_
      refine a_s rfl rfl ?_
      refine a_ic_eq rfl (fun z => absurd z cn) (fun _ => ?_)
      refine a_s rfl rfl ?_
      refine a_goto rfl ?_
      rw [show setP T e (nx T e b) W 8 0 50 = (true, nx T e (nx T e b), ud W 8 (nm T e (nx T e b) 0 50)) from if_neg cn]
      exact a_zret rfl rfl rfl (QLs.yes (Fm.up (Fms Fm.rf hf) rfl) (Ats.eq hA fun q g1 g2 => up2_row (by omega)) (Sd.pu (f := 14) (g := 8) (Sd.nx hD hf) (by decide)))
  rw [if_neg (c := isWd T e b 12 = true) (fun z => c ((Ats.wo h).trans ((wr_is (by decide)).mpr z)))]
  refine a_l0 rfl rfl rfl ?_
  refine a_getq rfl gfX6_20_6 rfl (rfl) ?_
  refine a_getr rfl gfX6_24_9 rfl ?_
  refine a_pop1 (show _ = rv w1 :: _ from rfl) ?_
  refine a_gets rfl (inC4 (i := 225) rfl rfl) (hw.st (i := 13) (by decide)) ?_
  refine a_acmp_ne (rx := w1) (ry := 100 + 13 + 1) rfl ((Ats.wk h).ac hw) (WK.ck hw (i := 13) (by decide)) (fun c => ?_) (fun c => ?_)
  rotate_left
  · have d1 : isWd T e b 13 = true := (wr_is (by decide)).mp ((Ats.wo h).symm.trans c)
    rw [if_pos d1]
    refine a_l0 rfl rfl rfl ?_
    refine a_getq rfl gfX6_16_6 rfl (rfl) ?_
    refine a_l0 rfl rfl rfl ?_
    refine a_gets rfl (inC4 (i := 225) rfl rfl) (hw.st (i := 13) (by decide)) ?_
    refine a_s rfl rfl ?_
    refine a_s rfl rfl ?_
    refine a_gV rfl lX6_71 mo_X6_readNumberOf (s_readNumberOf (k := 13) (lo := 1) (hi := 30) hw h (by decide) (by decide)) rfl rfl rfl ⟨6, _, rfl, rfl, rfl⟩ rfl (fun v' h' hv => ?_)
    obtain ⟨rfl, J, w, rfl, hA, hf⟩ := hv
    rw [nbP_t d1] at hA ⊢
    by_cases cn : nm T e (nx T e b) 1 30 = -1
    · rw [if_pos cn] at hA ⊢
      refine a_puti rfl pfX6_140_5 rfl ?_
      refine a_l0 rfl rfl rfl ?_
      refine a_getq rfl gfX6_16_6 rfl (rfl) ?_
      refine a_getiv (v := (-1)) rfl gfX6_140_5 rfl (up2_at) ?_
      refine a_s rfl rfl ?_
      refine a_ic_eq rfl (fun _ => ?_) (fun z => absurd rfl z)
      refine a_s rfl rfl ?_
      rw [show setP T e (nx T e b) W 4 1 30 = (false, nx T e b, W) from if_pos cn]
      exact a_zret rfl rfl rfl (QLs.no (Fm.up (Fms Fm.rf hf) rfl) (Ats.eq hA fun q g1 g2 => up2_row (by omega)) (Dk.up (Dk.nx (Dk.sd hD hW) hf) (by decide)))
    · rw [if_neg cn] at hA ⊢
      refine a_puti rfl pfX6_140_5 rfl ?_
      refine a_l0 rfl rfl rfl ?_
      refine a_getq rfl gfX6_16_6 rfl (rfl) ?_
      refine a_getiv (v := nm T e (nx T e b) 1 30) rfl gfX6_140_5 rfl (up2_at) ?_
      refine a_s rfl rfl ?_
      refine a_ic_eq rfl (fun z => absurd z cn) (fun _ => ?_)
      refine a_s rfl rfl ?_
      refine a_goto rfl ?_
      rw [show setP T e (nx T e b) W 4 1 30 = (true, nx T e (nx T e b), ud W 4 (nm T e (nx T e b) 1 30)) from if_neg cn]
      exact a_zret rfl rfl rfl (QLs.yes (Fm.up (Fms Fm.rf hf) rfl) (Ats.eq hA fun q g1 g2 => up2_row (by omega)) (Sd.pu (f := 10) (g := 4) (Sd.nx hD hf) (by decide)))
  rw [if_neg (c := isWd T e b 13 = true) (fun z => c ((Ats.wo h).trans ((wr_is (by decide)).mpr z)))]
  cases d1 : isWd T e b 14 with
  | true =>
    rw [if_pos rfl]
    refine a_l0 rfl rfl rfl ?_
    refine a_getq rfl gfX6_16_6 rfl (rfl) ?_
    refine a_l0 rfl rfl rfl ?_
    refine a_gets rfl (inC4 (i := 227) rfl rfl) (hw.st (i := 14) (by decide)) ?_
    refine a_s rfl rfl ?_
    refine a_s rfl rfl ?_
    refine a_gV rfl lX6_71 mo_X6_readNumberOf (s_readNumberOf (k := 14) (lo := 0) (hi := 999) hw h (by decide) (by decide)) rfl rfl rfl ⟨6, _, rfl, rfl, rfl⟩ rfl (fun v' h' hv => ?_)
    obtain ⟨rfl, J, w, rfl, hA, hf⟩ := hv
    rw [nbP_t d1] at hA ⊢
    by_cases cn : nm T e (nx T e b) 0 999 = -1
    · rw [if_pos cn] at hA ⊢
      refine a_puti rfl pfX6_146_5 rfl ?_
      refine a_l0 rfl rfl rfl ?_
      refine a_getq rfl gfX6_16_6 rfl (rfl) ?_
      refine a_getiv (v := (-1)) rfl gfX6_146_5 rfl (up2_at) ?_
      refine a_s rfl rfl ?_
      refine a_ic_eq rfl (fun _ => ?_) (fun z => absurd rfl z)
      refine a_s rfl rfl ?_
      rw [show setP T e (nx T e b) W 5 0 999 = (false, nx T e b, W) from if_pos cn]
      exact a_zret rfl rfl rfl (QLs.no (Fm.up (Fms Fm.rf hf) rfl) (Ats.eq hA fun q g1 g2 => up2_row (by omega)) (Dk.up (Dk.nx (Dk.sd hD hW) hf) (by decide)))
    · rw [if_neg cn] at hA ⊢
      refine a_puti rfl pfX6_146_5 rfl ?_
      refine a_l0 rfl rfl rfl ?_
      refine a_getq rfl gfX6_16_6 rfl (rfl) ?_
      refine a_getiv (v := nm T e (nx T e b) 0 999) rfl gfX6_146_5 rfl (up2_at) ?_
      refine a_s rfl rfl ?_
      refine a_ic_eq rfl (fun z => absurd z cn) (fun _ => ?_)
      refine a_s rfl rfl ?_
      refine a_goto rfl ?_
      rw [show setP T e (nx T e b) W 5 0 999 = (true, nx T e (nx T e b), ud W 5 (nm T e (nx T e b) 0 999)) from if_neg cn]
      exact a_zret rfl rfl rfl (QLs.yes (Fm.up (Fms Fm.rf hf) rfl) (Ats.eq hA fun q g1 g2 => up2_row (by omega)) (Sd.pu (f := 11) (g := 5) (Sd.nx hD hf) (by decide)))
  | false =>
    rw [if_neg Bool.false_ne_true]
    refine a_l0 rfl rfl rfl ?_
    refine a_getq rfl gfX6_16_6 rfl (rfl) ?_
    refine a_l0 rfl rfl rfl ?_
    refine a_gets rfl (inC4 (i := 227) rfl rfl) (hw.st (i := 14) (by decide)) ?_
    refine a_s rfl rfl ?_
    refine a_s rfl rfl ?_
    refine a_gV rfl lX6_71 mo_X6_readNumberOf (s_readNumberOf (k := 14) (lo := 0) (hi := 999) hw h (by decide) (by decide)) rfl rfl rfl ⟨6, _, rfl, rfl, rfl⟩ rfl (fun v' h' hv => ?_)
    obtain ⟨rfl, J, w, rfl, hA, hf⟩ := hv
    rw [nbP_f d1] at hA ⊢
    refine a_puti rfl pfX6_146_5 rfl ?_
    refine a_l0 rfl rfl rfl ?_
    refine a_getq rfl gfX6_16_6 rfl (rfl) ?_
    refine a_getiv (v := (-1)) rfl gfX6_146_5 rfl (up2_at) ?_
    refine a_s rfl rfl ?_
    refine a_ic_eq rfl (fun _ => ?_) (fun z => absurd rfl z)
    refine a_s rfl rfl ?_
    exact a_zret rfl rfl rfl (QLs.no (Fm.up (Fms Fm.rf hf) rfl) (Ats.eq hA fun q g1 g2 => up2_row (by omega)) (Dk.up (Dk.nx (Dk.sd hD hW) hf) (by decide)))
theorem s_readLine (hw : WdS S) (h : Ats T e b w1 I) (hD : Sd I 209 W) (hW : WOk W) : Sp S m_X6_readLine 18 0 0 [.ref 203] (hp I L w1 w2 t) (QLs T e (linP T e b W) I L w2 t) nX := by
  have hp6 := hW.1
  have hd12 := hW.2.1
  refine Sp_of ok_X6_readLine rfl rfl ?_
  show AW S m_X6_readLine 18 _ _ 0 0 0 [some (.ref 203)] [] (hp I L w1 w2 t)
  refine a_l0 rfl rfl rfl ?_
  refine a_getq rfl gfX6_20_6 rfl (rfl) ?_
  refine a_getr rfl gfX6_24_9 rfl ?_
  refine a_pop1 (show _ = rv w1 :: _ from rfl) ?_
  refine a_gets rfl (inC4 (i := 166) rfl rfl) (hw.st (i := 0) (by decide)) ?_
  refine a_acmp_ne (rx := w1) (ry := 100 + 0 + 1) rfl ((Ats.wk h).ac hw) (WK.ck hw (i := 0) (by decide)) (fun c => ?_) (fun c => ?_)
  rotate_left
  · have d1 : isWd T e b 0 = true := (wr_is (by decide)).mp ((Ats.wo h).symm.trans c)
    rw [show linP T e b W = perP T e b W from if_pos d1]
    refine a_l0 rfl rfl rfl ?_
    refine a_getq rfl gfX6_16_6 rfl (rfl) ?_
    refine a_getiv (v := nI (pn W)) rfl gfX6_35_5 rfl ((Sd.fd hD (f := 0) (g := 0) (by decide)).trans hW.2.2.1) ?_
    refine a_s rfl rfl ?_
    refine a_ic_ge rfl (fun c6 => ?_) (fun c6 => ?_)
    · have c6 := nI_ge_of (b := 6) c6 (by omega) (by decide)
      rw [show perP T e b W = (false, b, W) from if_pos (by rw [hW.2.2.1, show pn W = 6 by omega]; rfl)]
      refine a_s rfl rfl ?_
      exact a_zret rfl rfl rfl (QLs.no Fm.rf h (Dk.sd hD hW))
    have c6 := nI_lt_of (b := 6) c6 (by omega) (by decide)
    have h6 : ¬ W 0 = 6 := fun z => by
      rw [hW.2.2.1] at z
      have := nI_inj (b := 6) (by omega) (by decide) z
      omega
    rw [show perP T e b W = perB T e W (nbP T e 1 0 15 (nx T e b)) from if_neg h6]
    refine a_l0 rfl rfl rfl ?_
    refine a_gV rfl lX6_39 mo_X6_readPerson (s_readPerson hw h hD hW h6) rfl rfl rfl ⟨6, _, rfl, rfl, rfl⟩ rfl (fun v' h' hv => ?_)
    obtain ⟨rfl, J, w, rfl, F, hA, hk, hz⟩ := hv
    generalize perB T e W (nbP T e 1 0 15 (nx T e b)) = r at hA hk hz ⊢
    obtain ⟨z, p, W'⟩ := r
    cases z with
    | false =>
      refine a_if_eq rfl (fun _ => ?_) (fun z => absurd rfl z)
      refine a_s rfl rfl ?_
      exact a_zret rfl rfl rfl ⟨rfl, J, w, rfl, F, hA, hk, hz⟩
    | true =>
      refine a_if_eq rfl (fun z => absurd (show (1 : Int32) = 0 from z) (by decide)) (fun _ => ?_)
      refine a_s rfl rfl ?_
      refine a_goto rfl ?_
      exact a_zret rfl rfl rfl ⟨rfl, J, w, rfl, F, hA, hk, hz⟩
  have n0 : ¬ isWd T e b 0 = true := fun z => c ((Ats.wo h).trans ((wr_is (by decide)).mpr z))
  clear c
  refine a_l0 rfl rfl rfl ?_
  refine a_getq rfl gfX6_20_6 rfl (rfl) ?_
  refine a_getr rfl gfX6_24_9 rfl ?_
  refine a_pop1 (show _ = rv w1 :: _ from rfl) ?_
  refine a_gets rfl (inC4 (i := 187) rfl rfl) (hw.st (i := 3) (by decide)) ?_
  refine a_acmp_ne (rx := w1) (ry := 100 + 3 + 1) rfl ((Ats.wk h).ac hw) (WK.ck hw (i := 3) (by decide)) (fun c => ?_) (fun c => ?_)
  rotate_left
  · have d1 : isWd T e b 3 = true := (wr_is (by decide)).mp ((Ats.wo h).symm.trans c)
    rw [show linP T e b W = dutP T e b W from (if_neg n0).trans (if_pos d1)]
    refine a_l0 rfl rfl rfl ?_
    refine a_getq rfl gfX6_16_6 rfl (rfl) ?_
    refine a_getiv (v := nI (dn W)) rfl gfX6_46_5 rfl ((Sd.fd hD (f := 3) (g := 1) (by decide)).trans hW.2.2.2) ?_
    refine a_s rfl rfl ?_
    refine a_ic_ge rfl (fun c6 => ?_) (fun c6 => ?_)
    · have c6 := nI_ge_of (b := 12) c6 (by omega) (by decide)
      rw [show dutP T e b W = (false, b, W) from if_pos (by rw [hW.2.2.2, show dn W = 12 by omega]; rfl)]
      refine a_s rfl rfl ?_
      exact a_zret rfl rfl rfl (QLs.no Fm.rf h (Dk.sd hD hW))
    have c6 := nI_lt_of (b := 12) c6 (by omega) (by decide)
    have h6 : ¬ W 1 = 12 := fun z => by
      rw [hW.2.2.2] at z
      have := nI_inj (b := 12) (by omega) (by decide) z
      omega
    rw [show dutP T e b W = duA T e W (nbP T e 4 0 (W 0 - 1) (nx T e b)) from if_neg h6]
    refine a_l0 rfl rfl rfl ?_
    refine a_gV rfl lX6_49 mo_X6_readDuty (s_readDuty hw h hD hW h6) rfl rfl rfl ⟨6, _, rfl, rfl, rfl⟩ rfl (fun v' h' hv => ?_)
    obtain ⟨rfl, J, w, rfl, F, hA, hk, hz⟩ := hv
    generalize duA T e W (nbP T e 4 0 (W 0 - 1) (nx T e b)) = r at hA hk hz ⊢
    obtain ⟨z, p, W'⟩ := r
    cases z with
    | false =>
      refine a_if_eq rfl (fun _ => ?_) (fun z => absurd rfl z)
      refine a_s rfl rfl ?_
      exact a_zret rfl rfl rfl ⟨rfl, J, w, rfl, F, hA, hk, hz⟩
    | true =>
      refine a_if_eq rfl (fun z => absurd (show (1 : Int32) = 0 from z) (by decide)) (fun _ => ?_)
      refine a_s rfl rfl ?_
      refine a_goto rfl ?_
      exact a_zret rfl rfl rfl ⟨rfl, J, w, rfl, F, hA, hk, hz⟩
  have n3 : ¬ isWd T e b 3 = true := fun z => c ((Ats.wo h).trans ((wr_is (by decide)).mpr z))
  clear c
  refine a_l0 rfl rfl rfl ?_
  refine a_getq rfl gfX6_20_6 rfl (rfl) ?_
  refine a_gets rfl (inC4 (i := 207) rfl rfl) (hw.st (i := 9) (by decide)) ?_
  refine a_gV rfl lX6_55 mo_X9_takeWord (s_takeWord (k := 9) hw h (by decide)) rfl rfl rfl ⟨9, _, rfl, rfl, rfl⟩ rfl (fun v' h' hv => ?_)
  obtain ⟨rfl, J, w, rfl, hA, hf⟩ := hv
  cases c9 : isWd T e b 9 with
  | true =>
    rw [c9, if_pos rfl] at hA
    refine a_if_eq rfl (fun z => absurd z (by decide)) (fun _ => ?_)
    rw [show linP T e b W = forP T e (nx T e b) W from (if_neg n0).trans ((if_neg n3).trans (if_pos c9))]
    refine a_l0 rfl rfl rfl ?_
    refine a_gV rfl lX6_59 mo_X6_readForgotten (s_readForgotten hw hA (Sd.nx hD hf) hW) rfl rfl rfl ⟨6, _, rfl, rfl, rfl⟩ rfl (fun v' h' hv => ?_)
    obtain ⟨rfl, J2, w3, rfl, F, hA2, hk, hz⟩ := hv
    exact a_zret rfl rfl (bI_nar _) ⟨rfl, J2, w3, rfl, Fm.tr (Fms Fm.rf hf) F, hA2, hk, hz⟩
  | false =>
    rw [c9, if_neg Bool.false_ne_true] at hA
    refine a_if_eq rfl (fun _ => ?_) (fun z => absurd rfl z)
    rw [show linP T e b W = stgP T e b W from (if_neg n0).trans ((if_neg n3).trans (if_neg (by rw [c9]; exact Bool.false_ne_true)))]
    refine a_l0 rfl rfl rfl ?_
    refine a_gV rfl lX6_62 mo_X6_readSetting (s_readSetting hw hA (Sd.nx hD hf) hW) rfl rfl rfl ⟨6, _, rfl, rfl, rfl⟩ rfl (fun v' h' hv => ?_)
    obtain ⟨rfl, J2, w3, rfl, F, hA2, hk, hz⟩ := hv
    exact a_zret rfl rfl (bI_nar _) ⟨rfl, J2, w3, rfl, Fm.tr (Fms Fm.rf hf) F, hA2, hk, hz⟩
theorem s_readLines (hw : WdS S) (he : I 201 1 = nI e) (h4 : e ≤ 400) (hbt : BtT (I 202)) (hm0 : I 203 1 = 14) (hD : Sd I 209 W) (hW : WOk W) : Sp S m_X8_readLines 20 0 0 [.ref 203, .ref 201] (hp I L w1 w2 t) (fun v h' => v = some (.int (if (strP (I 202) e W).1 = true then -1 else nI (strP (I 202) e W).2.1)) ∧ ∃ J w, h' = hp J L w w2 t ∧ WK w ∧ (strP (I 202) e W).2.1 ≤ e ∧ Fm sO I J ∧ ((strP (I 202) e W).1 = false → Dk J) ∧ ((strP (I 202) e W).1 = true → Sd J 209 (strP (I 202) e W).2.2)) nX := by
  refine Sp_of ok_X8_readLines rfl rfl ?_
  show AW S m_X8_readLines 20 _ _ 0 0 0 [some (.ref 203), some (.ref 201), none] [] (hp I L w1 w2 t)
  generalize hT : I 202 = T at hbt ⊢
  refine a_l0 rfl rfl rfl ?_
  refine a_getq rfl gfX8_12_6 rfl (rfl) ?_
  refine a_l1 rfl rfl rfl ?_
  refine a_gV rfl lX8_22 mo_X9_scan (s_scan hw he h4 (by rw [hT]; exact hbt)) rfl rfl rfl ⟨9, _, rfl, rfl, rfl⟩ rfl (fun v' h' hv => ?_)
  obtain ⟨rfl, J1, wa, rfl, hA1, hf1⟩ := hv
  rw [hT] at hA1
  have hF1 : Fm sO I J1 := Fms.d Fm.rf hf1
  have hD1 : Sd J1 209 W := Sd.eq hD fun q g1 g2 => hf1 q (by omega)
  refine a_l0 rfl rfl rfl ?_
  refine a_getq rfl gfX8_12_6 rfl (rfl) ?_
  refine a_eV1 rfl lX8_26 mo_X9_isEnd (s_isEnd hA1) rfl rfl rfl ⟨9, _, rfl, rfl, rfl⟩ rfl ?_
  by_cases c0 : bg T e 0 < e
  rotate_left
  · rw [show decide (¬ bg T e 0 < e) = true from decide_eq_true c0]
    refine a_if_eq rfl (fun z => absurd z (by decide)) (fun _ => ?_)
    have el : strP T e W = (true, bg T e 0, W) := if_neg c0
    rw [el, if_pos rfl]
    refine a_s rfl rfl ?_
    exact a_iret rfl rfl ⟨rfl, J1, wa, rfl, Ats.wk hA1, Ats.le hA1, hF1, fun z => (by cases z), fun _ => hD1⟩
  rw [show decide (¬ bg T e 0 < e) = false from decide_eq_false (fun z => z c0)]
  refine a_if_eq rfl (fun _ => ?_) (fun z => absurd rfl z)
  refine a_s rfl rfl ?_
  refine a_s2 rfl rfl rfl rfl rfl rfl ?_
  refine a_inv (n := 14) (fun m ls h => ∃ i b' w' W' J, ls = [some (.ref 203), some (.ref 201), some (.int (nI i))] ∧ h = hp J L w' w2 t ∧ Ats T e b' w' J ∧ Sd J 209 W' ∧ WOk W' ∧ Fm sO I J ∧ i ≤ 14 ∧ strsP T e (14 - i) b' W' = strP T e W ∧ m = 14 - i) ⟨0, bg T e 0, wa, W, J1, rfl, rfl, hA1, hD1, hW, hF1, by decide, (if_pos c0).symm, rfl⟩ ?_
  rintro m _ _ ⟨i, b', w', W', J, rfl, rfl, hA, hD', hW', hF, hi, es, hm⟩ ih
  refine a_l2 rfl rfl rfl ?_
  refine a_l0 rfl rfl rfl ?_
  refine a_getiv (v := 14) rfl gfX8_18_6 rfl ((hF 203 1 rfl).trans hm0) ?_
  refine a_ic_ge rfl (fun c => ?_) (fun c => ?_)
  · have h12 := nI_ge_of (b := 14) c (by omega) (by decide)
    obtain rfl : i = 14 := by omega
    have es : strP T e W = (false, b', W') := es.symm
    rw [es, if_neg Bool.false_ne_true]
    refine a_l0 rfl rfl rfl ?_
    refine a_getq rfl gfX8_12_6 rfl (rfl) ?_
    refine a_getiv (v := nI b') rfl gfX8_33_9 rfl (Ats.be hA) ?_
    exact a_iret rfl rfl ⟨rfl, J, w', rfl, Ats.wk hA, Ats.le hA, hF, fun _ => Dk.sd hD' hW', fun z => by cases z⟩
  have hi12 : i < 14 := nI_lt_of (b := 14) c (by omega) (by decide)
  obtain ⟨f, hf⟩ : ∃ f, 14 - i = f + 1 := ⟨14 - i - 1, by omega⟩
  rw [hf, strsP_s] at es
  have lok := linP_ok (T := T) (e := e) (b := b') hW'
  refine a_l0 rfl rfl rfl ?_
  refine a_callU rfl lu_30_6 dc_readLine mo_X6_readLine hx_rl0 (s_readLine hw hA hD' hW') rfl rfl rfl ⟨6, _, rfl, rfl, rfl⟩ rfl (fun v' h' hv => ?_) (fun _ _ z => False.elim z)
  obtain ⟨rfl, J2, wb, rfl, f2, hA2, hk2, hz2⟩ := hv
  have hF2 : Fm sO I J2 := Fm.tr hF f2
  generalize linP T e b' W' = r at es hA2 hk2 hz2 lok ⊢
  obtain ⟨z, b1, W1⟩ := r
  cases z with
  | false =>
    refine a_if_ne rfl (fun z => absurd rfl z) (fun _ => ?_)
    have es : strP T e W = (false, b1, W') := es.symm
    rw [es, if_neg Bool.false_ne_true]
    refine a_l0 rfl rfl rfl ?_
    refine a_getq rfl gfX8_12_6 rfl (rfl) ?_
    refine a_getiv (v := nI b1) rfl gfX8_33_9 rfl (Ats.be hA2) ?_
    exact a_iret rfl rfl ⟨rfl, J2, wb, rfl, Ats.wk hA2, Ats.le hA2, hF2, fun _ => hk2 rfl, fun z => by cases z⟩
  | true =>
  refine a_if_ne rfl (fun _ => ?_) (fun z => absurd (show (1 : Int32) = 0 from z) (by decide))
  have hD2 : Sd J2 209 W1 := hz2 rfl
  have hW2 : WOk W1 := lok rfl
  rw [if_pos rfl] at es
  refine a_l0 rfl rfl rfl ?_
  refine a_getq rfl gfX8_12_6 rfl (rfl) ?_
  refine a_eV1 rfl lX8_26 mo_X9_isEnd (s_isEnd hA2) rfl rfl rfl ⟨9, _, rfl, rfl, rfl⟩ rfl ?_
  by_cases c1 : b1 < e
  rotate_left
  · rw [show decide (¬ b1 < e) = true from decide_eq_true c1]
    refine a_if_eq rfl (fun z => absurd z (by decide)) (fun _ => ?_)
    have es : strP T e W = (true, b1, W1) := es.symm.trans (if_neg c1)
    rw [es, if_pos rfl]
    refine a_s rfl rfl ?_
    exact a_iret rfl rfl ⟨rfl, J2, wb, rfl, Ats.wk hA2, Ats.le hA2, hF2, fun z => (by cases z), fun _ => hD2⟩
  rw [show decide (¬ b1 < e) = false from decide_eq_false (fun z => z c1)]
  refine a_if_eq rfl (fun _ => ?_) (fun z => absurd rfl z)
  have es := (if_pos c1).symm.trans es
  refine a_l0 rfl rfl rfl ?_
  refine a_getq rfl gfX8_12_6 rfl (rfl) ?_
  refine a_s rfl rfl ?_
  refine a_gV rfl lX8_36 mo_X9_takeSign (s_takeSign hw hA2) rfl rfl rfl ⟨9, _, rfl, rfl, rfl⟩ rfl (fun v' h' hv => ?_)
  obtain ⟨rfl, J3, wc, rfl, hA3, hf3⟩ := hv
  have hF3 : Fm sO I J3 := Fms hF2 hf3
  cases c59 : sg T e b1 59 with
  | false =>
    rw [c59, if_neg Bool.false_ne_true] at hA3
    refine a_if_ne rfl (fun z => absurd rfl z) (fun _ => ?_)
    have es : strP T e W = (false, b1, W') := es.symm.trans (if_neg (by show ¬ sg T e b1 59 = true; rw [c59]; exact Bool.false_ne_true))
    rw [es, if_neg Bool.false_ne_true]
    refine a_l0 rfl rfl rfl ?_
    refine a_getq rfl gfX8_12_6 rfl (rfl) ?_
    refine a_getiv (v := nI b1) rfl gfX8_33_9 rfl (Ats.be hA3) ?_
    exact a_iret rfl rfl ⟨rfl, J3, wc, rfl, Ats.wk hA3, Ats.le hA3, hF3, fun _ => Dk.nx (Dk.sd hD2 hW2) hf3, fun z => by cases z⟩
  | true =>
    rw [c59, if_pos rfl] at hA3
    refine a_if_ne rfl (fun _ => ?_) (fun z => absurd z (by decide))
    have es := es.symm.trans (if_pos c59)
    refine a_iv2 (y := nI (i + 1)) rfl rfl rfl ((nI_succ i).symm) ?_
    refine a_goto rfl ?_
    exact ih (14 - (i + 1)) _ _ (by omega) ⟨i + 1, nx T e b1, wc, W1, J3, rfl, rfl, hA3, Sd.nx hD2 hf3, hW2, hF3, by omega, by rw [show 14 - (i + 1) = f by omega]; exact es.symm, rfl⟩
end T79n
end
section
/-! ===== the reference: a text of the street, as a function (printed by program) ===== -/
section T79o
variable {S : aS} {I : Nat → Nat → Int32} {L : Nat → Nat → Int64} {w1 w2 t : Nat} {e p b : Nat} {T W : Nat → Int32}
set_option maxRecDepth 100000
/-- from I to J: at p, what is next begins at b, the world is W -/
def Hf (T : Nat → Int32) (e b : Nat) (W : Nat → Int32) (I J : Nat → Nat → Int32) (p : Nat) : Prop := Fm sS I J ∧ Pp e p J ∧ rn T e 4 p = b ∧ J 421 = W
theorem Hf.pp {J : Nat → Nat → Int32} (h : Hf T e b W I J p) : Pp e p J := h.2.1
theorem Hf.nb {J : Nat → Nat → Int32} (h : Hf T e b W I J p) : rn T e 4 p = b := h.2.2.1
theorem Hf.wd {J : Nat → Nat → Int32} (h : Hf T e b W I J p) : J 421 = W := h.2.2.2
theorem Hf.tt {J : Nat → Nat → Int32} (h : Hf T e b W I J p) (hT : I 426 = T) : J 426 = T := (funext fun k => h.1 426 k rfl).trans hT
theorem Hf.sk {J : Nat → Nat → Int32} (h : Hf T e b W I J p) : rn T e 4 b = b := by
  rw [← Hf.nb h]
  exact rn_rn
theorem Hf.le {J : Nat → Nat → Int32} (h : Hf T e b W I J p) : b ≤ e := by
  rw [← Hf.nb h]
  exact rn_le (Pp.le (Hf.pp h))
theorem Hf.rd {J K : Nat → Nat → Int32} {b2 p' b' : Nat} (h : Hf T e b W I J p) (r : Rd e p b2 p' J K) (hb : rn T e 4 p' = b') : Hf T e b' W I K p' := ⟨Fm.tr h.1 (Fm.mo (Rd.fm r) sR_sS), Rd.pp r, hb, (Rd.w r).trans h.2.2.2⟩
theorem Hf.ot {J K : Nat → Nat → Int32} {p' b' : Nat} (h : Hf T e b W I J p) (f : Fm sR J K) (hq : Pp e p' K) (hb : rn T e 4 p' = b') : Hf T e b' W I K p' := ⟨Fm.tr h.1 (Fm.mo f sR_sS), hq, hb, (funext fun k => f 421 k rfl).trans h.2.2.2⟩
def QH (T : Nat → Int32) (e : Nat) (r : SR) (I : Nat → Nat → Int32) (L : Nat → Nat → Int64) (w1 w2 t : Nat) : Option Value → aH → Prop := fun v h' => v = some (.int (bI r.1)) ∧ ∃ J p, h' = hp J L w1 w2 t ∧ (r.1 = true → Hf T e r.2.1 r.2.2 I J p) ∧ (r.1 = false → Fm sS I J ∧ J 420 12 = nI r.2.1)
theorem QH.yes {J : Nat → Nat → Int32} (h : Hf T e b W I J p) : QH T e (true, b, W) I L w1 w2 t (some (.int 1)) (hp J L w1 w2 t) := ⟨rfl, J, p, rfl, fun _ => h, fun z => by cases z⟩
theorem QH.no {J : Nat → Nat → Int32} (f : Fm sS I J) (hb : J 420 12 = nI b) : QH T e (false, b, W) I L w1 w2 t (some (.int 0)) (hp J L w1 w2 t) := ⟨rfl, J, 0, rfl, fun z => (by cases z), fun _ => ⟨f, hb⟩⟩
theorem QH.be {J : Nat → Nat → Int32} {r : SR} {v : Option Value} {h' : aH} (f : Fm sS I J) (h : QH T e r J L w1 w2 t v h') : QH T e r I L w1 w2 t v h' := by
  obtain ⟨e1, K, p', e2, y, n⟩ := h
  exact ⟨e1, K, p', e2, fun z => ⟨Fm.tr f (y z).1, (y z).2⟩, fun z => ⟨Fm.tr f (n z).1, (n z).2⟩⟩
theorem nm_ge0 {lo hi : Int32} (h0 : 0 ≤ lo) : nm T e b lo hi = -1 ∨ 0 ≤ nm T e b lo hi := by
  by_cases c : nm T e b lo hi = -1
  · exact Or.inl c
  · exact Or.inr (Int32.le_trans h0 (nm_in c).1)
theorem nbP_ge0 {k : Nat} {lo hi : Int32} (h0 : 0 ≤ lo) : (nbP T e k lo hi b).1 = -1 ∨ 0 ≤ (nbP T e k lo hi b).1 := by
  unfold nbP
  by_cases c : isWd T e b k = true
  · rw [if_pos c]
    by_cases c2 : nm T e (nx T e b) lo hi = -1
    · rw [if_pos c2]
      exact Or.inl rfl
    · rw [if_neg c2]
      exact nm_ge0 h0
  · rw [if_neg c]
    exact Or.inl rfl
theorem h_numberBehind (hw : WdS S) (hT : I 426 = T) {k : Nat} (hk : k < 27) (hq : Pp e p I) (hb : rn T e 4 p = b) {lo hi : Int32} (h0 : 0 ≤ lo) : Sp S m_X12_numberBehind 18 0 0 [.ref 420, .ref (130 + k), .int lo, .int hi] (hp I L w1 w2 t) (fun v h' => v = some (.int (nbP T e k lo hi b).1) ∧ ∃ J p', h' = hp J L w1 w2 t ∧ Fm sR I J ∧ (¬ (nbP T e k lo hi b).1 = -1 → Pp e p' J ∧ rn T e 4 p' = (nbP T e k lo hi b).2) ∧ ((nbP T e k lo hi b).1 = -1 → J 420 12 = nI (nbP T e k lo hi b).2)) nX := by
  refine Sp_of ok_X12_numberBehind rfl rfl ?_
  show AW S m_X12_numberBehind 18 _ _ 0 0 0 [some (.ref 420), some (.ref (130 + k)), some (.int lo), some (.int hi)] [] (hp I L w1 w2 t)
  refine a_l0 rfl rfl rfl ?_
  refine a_gV rfl lX12_106 mo_X12_letters (h_letters hq) rfl rfl rfl ⟨12, _, rfl, rfl, rfl⟩ rfl (fun v' h' hv => ?_)
  obtain ⟨rfl, J1, rfl, h1⟩ := hv
  rw [hT, hb] at h1
  have eT1 : J1 426 = T := (Rd.T h1).trans hT
  refine a_l0 rfl rfl rfl ?_
  refine a_l1 rfl rfl rfl ?_
  refine a_eV1 rfl lX12_109 mo_X12_isWord (h_isWord (k := k) hw hk (Rd.be h1) (Rd.bp h1) (Rd.pp h1)) rfl rfl rfl ⟨12, _, rfl, rfl, rfl⟩ rfl ?_
  obtain ⟨z, cz⟩ : ∃ z, isWd T e b k = z := ⟨_, rfl⟩
  refine a_top (y := bI z) (by rw [eT1]; exact congrArg bI ((isW_wd hk).trans cz)) ?_
  cases z with
  | true =>
    refine a_if_eq rfl (fun z => absurd z (by decide)) (fun _ => ?_)
    have k1 := (of_decide_eq_true cz).1
    refine a_l0 rfl rfl rfl ?_
    refine a_l2 rfl rfl rfl ?_
    refine a_l3 rfl rfl rfl ?_
    refine a_gV rfl lX12_113 mo_X12_number (h_number (b := nx T e b) (x := lo) (y := hi) (Rd.pp h1) (by rw [eT1, ← en_1 k1]; rfl) h0) rfl rfl rfl ⟨12, _, rfl, rfl, rfl⟩ rfl (fun v' h' hv => ?_)
    obtain ⟨rfl, J2, rfl, h2⟩ := hv
    rw [eT1] at h2 ⊢
    refine a_goto rfl ?_
    rw [nbP_t cz]
    by_cases c2 : nm T e (nx T e b) lo hi = -1
    · rw [if_pos c2, c2]
      exact a_iret rfl rfl ⟨rfl, J2, 0, rfl, Fm.tr (Rd.fm h1) (Rd.fm h2), fun z => absurd rfl z, fun _ => Rd.be h2⟩
    · rw [if_neg c2]
      exact a_iret rfl rfl ⟨rfl, J2, _, rfl, Fm.tr (Rd.fm h1) (Rd.fm h2), fun _ => ⟨Rd.pp h2, by rw [← en_2 (nm_in c2).2.2.1]; rfl⟩, fun z => absurd z c2⟩
  | false =>
    refine a_if_eq rfl (fun _ => ?_) (fun z => absurd rfl z)
    refine a_s rfl rfl ?_
    rw [nbP_f cz]
    exact a_iret rfl rfl ⟨rfl, J1, 0, rfl, Rd.fm h1, fun z => absurd rfl z, fun _ => Rd.be h1⟩
theorem h_readNumber (hT : I 426 = T) (hq : Pp e p I) (hb : rn T e 4 p = b) (h421 : I 421 = W) {i : Nat} (h4 : 4 ≤ i) (h8 : i ≤ 8) {x y : Int32} (h0 : 0 ≤ x) : Sp S m_X12_readNumber 16 0 0 [.ref 420, .int (nI i), .int x, .int y] (hp I L w1 w2 t) (QH T e (setP T e b W i x y) I L w1 w2 t) nX := by
  refine Sp_of ok_X12_readNumber rfl rfl ?_
  show AW S m_X12_readNumber 16 _ _ 0 0 0 [some (.ref 420), some (.int (nI i)), some (.int x), some (.int y), none] [] (hp I L w1 w2 t)
  refine a_l0 rfl rfl rfl ?_
  refine a_l2 rfl rfl rfl ?_
  refine a_l3 rfl rfl rfl ?_
  refine a_gV rfl lX12_113 mo_X12_number (h_number (b := b) hq (by rw [hT]; exact hb) h0) rfl rfl rfl ⟨12, _, rfl, rfl, rfl⟩ rfl (fun v' h' hv => ?_)
  obtain ⟨rfl, J, rfl, h⟩ := hv
  rw [hT] at h ⊢
  refine a_s4 rfl rfl rfl rfl rfl rfl ?_
  refine a_l0 rfl rfl rfl ?_
  refine a_getq rfl gfX12_13_12 rfl (rfl) ?_
  refine a_l1 rfl rfl rfl ?_
  refine a_l4 rfl rfl rfl ?_
  have fs : ∀ v, Fm sS I (up2 J 421 i v) := fun v => Fm.up (Fm.mo (Rd.fm h) sR_sS) (sS_at (stC_of _ (by omega) (by omega) (by omega)))
  by_cases c : nm T e b x y = -1
  · rw [show setP T e b W i x y = (false, b, W) from if_pos c, c]
    refine a_if_ge rfl (fun z => absurd z (by decide)) (fun _ => ?_)
    refine a_l0 rfl rfl rfl ?_
    refine a_getq rfl gfX12_13_12 rfl (rfl) ?_
    refine a_l1 rfl rfl rfl ?_
    refine a_ialdv (v := J 421 i) rfl (n := 2033) rfl (inI_nI (by omega) (by omega)) (by rw [nI_clamp (by omega)]) ?_
    refine a_goto rfl ?_
    refine a_iastv (k := i) rfl (n := 2033) rfl (inI_nI (by omega) (by omega)) (nI_clamp (by omega)) ?_
    refine a_l4 rfl rfl rfl ?_
    refine a_if_lt rfl (fun _ => ?_) (fun z => absurd (by decide) z)
    refine a_s rfl rfl ?_
    exact a_zret rfl rfl rfl (QH.no (fs _) ((congrFun (up2_row (by decide)) 12).trans (Rd.be h)))
  · rw [show setP T e b W i x y = (true, nx T e b, ud W i (nm T e b x y)) from if_neg c]
    have g0 := Int32.le_trans h0 (nm_in c).1
    refine a_if_ge rfl (fun _ => ?_) (fun z => absurd g0 z)
    refine a_l4 rfl rfl rfl ?_
    refine a_iastv (k := i) rfl (n := 2033) rfl (inI_nI (by omega) (by omega)) (nI_clamp (by omega)) ?_
    refine a_l4 rfl rfl rfl ?_
    refine a_if_lt rfl (fun z => absurd z (Int32.not_lt.mpr g0)) (fun _ => ?_)
    refine a_s rfl rfl ?_
    refine a_goto rfl ?_
    refine a_zret rfl rfl rfl (QH.yes ⟨fs _, ?_, (by rw [← en_2 (nm_in c).2.2.1]; rfl : rn T e 4 (rn T e 2 b) = nx T e b), ?_⟩)
    · unfold Pp
      rw [up2_row (by decide)]
      exact Rd.pp h
    · rw [up2_ud, Rd.w h, h421]
theorem h_readForgotten (hT : I 426 = T) (hq : Pp e p I) (hb : rn T e 4 p = b) (h421 : I 421 = W) (hW : WOk W) : Sp S m_X12_readForgotten 16 0 0 [.ref 420] (hp I L w1 w2 t) (QH T e (forP T e b W) I L w1 w2 t) nX := by
  have h12 := hW.2.1
  refine Sp_of ok_X12_readForgotten rfl rfl ?_
  show AW S m_X12_readForgotten 16 _ _ 0 0 0 [some (.ref 420), none] [] (hp I L w1 w2 t)
  refine a_l0 rfl rfl rfl ?_
  refine a_s rfl rfl ?_
  refine a_l0 rfl rfl rfl ?_
  refine a_eV1 rfl lX12_74 mo_X12_duties sp_X12_duties rfl rfl rfl ⟨12, _, rfl, rfl, rfl⟩ rfl ?_
  refine a_s rfl rfl ?_
  refine a_s rfl rfl ?_
  refine a_top (y := W 1 - 1) (by rw [h421]) ?_
  refine a_gV rfl lX12_113 mo_X12_number (h_number (b := b) (x := 0) (y := W 1 - 1) hq (by rw [hT]; exact hb) (by decide)) rfl rfl rfl ⟨12, _, rfl, rfl, rfl⟩ rfl (fun v' h' hv => ?_)
  obtain ⟨rfl, J, rfl, h⟩ := hv
  rw [hT] at h ⊢
  have no : ∀ {v : Int32}, forP T e b W = (false, b, W) → AW S m_X12_readForgotten 16 (QH T e (forP T e b W) I L w1 w2 t) nX 0 0 24 [some (.ref 420), some (.int v)] [] (hp J L w1 w2 t) := by
    intro v ef
    rw [ef]
    refine a_s rfl rfl ?_
    exact a_zret rfl rfl rfl (QH.no (Fm.mo (Rd.fm h) sR_sS) (Rd.be h))
  refine a_s1 rfl rfl rfl rfl rfl rfl ?_
  refine a_l1 rfl rfl rfl ?_
  by_cases c : nm T e b 0 (W 1 - 1) = -1
  · refine a_if_lt rfl (fun _ => no (if_pos c)) (fun z => absurd (by rw [c]; decide) z)
  obtain ⟨j, hj, ej⟩ := nm_ix h12 (by rw [← hW.2.2.2]; exact c)
  rw [← hW.2.2.2] at ej
  refine a_if_lt rfl (fun z => absurd z (by rw [ej]; exact nI_pos (by omega))) (fun _ => ?_)
  rw [ej]
  refine a_l0 rfl rfl rfl ?_
  refine a_l1 rfl rfl rfl ?_
  refine a_eV1 rfl lX12_135 mo_X12_isWaiting (sp_X12_isWaiting (d := j) (by omega)) rfl rfl rfl ⟨12, _, rfl, rfl, rfl⟩ rfl ?_
  have e5 : vd (J 421) 5 j = W (23 + 6 * j + 5) := by rw [Rd.w h, h421]
  rw [e5]
  by_cases cw : W (23 + 6 * j + 5) = 0
  · rw [decide_eq_true cw]
    refine a_if_ne rfl (fun _ => ?_) (fun z => absurd z (by decide))
    rw [show forP T e b W = (true, nx T e b, ud W (23 + 6 * j + 5) 2) by unfold forP; rw [if_neg c, ej, nI_clamp (by omega), if_pos cw]]
    refine a_l0 rfl rfl rfl ?_
    refine a_getq rfl gfX12_13_12 rfl (rfl) ?_
    refine a_l1 rfl rfl rfl ?_
    refine a_s rfl rfl ?_
    refine a_eS1 rfl lX12_60 mo_X12_at (sp_X12_at (d := j) (k := 5)) rfl rfl rfl rfl ?_
    refine a_s rfl rfl ?_
    refine a_iastv (k := 23 + 6 * j + 5) rfl (n := 2033) rfl (inI_nI (by omega) (by omega)) (nI_clamp (by omega)) ?_
    refine a_s rfl rfl ?_
    refine a_zret rfl rfl rfl (QH.yes ⟨Fm.up (Fm.mo (Rd.fm h) sR_sS) (sS_at (stC_of _ (by omega) (by omega) (by omega))), ?_, (by rw [← en_2 (nm_in c).2.2.1]; rfl : rn T e 4 (rn T e 2 b) = nx T e b), ?_⟩)
    · unfold Pp
      rw [up2_row (by decide)]
      exact Rd.pp h
    · rw [up2_ud, Rd.w h, h421]
  · rw [decide_eq_false cw]
    refine a_if_ne rfl (fun z => absurd rfl z) (fun _ => no ?_)
    unfold forP
    rw [if_neg c, ej, nI_clamp (by omega), if_neg cw]
theorem h_readPerson (hw : WdS S) (hT : I 426 = T) (hq : Pp e p I) (hn : rn T e 4 p = nx T e b) (h12 : I 420 12 = nI b) (h421 : I 421 = W) (hW : WOk W) : Sp S m_X12_readPerson 20 0 0 [.ref 420] (hp I L w1 w2 t) (QH T e (perP T e b W) I L w1 w2 t) nX := by
  have hp6 := hW.1
  refine Sp_of ok_X12_readPerson rfl rfl ?_
  show AW S m_X12_readPerson 20 _ _ 0 0 0 [some (.ref 420), none, none, none] [] (hp I L w1 w2 t)
  refine a_l0 rfl rfl rfl ?_
  refine a_eV1 rfl lX12_66 mo_X12_people sp_X12_people rfl rfl rfl ⟨12, _, rfl, rfl, rfl⟩ rfl ?_
  refine a_top (y := nI (pn W)) (by rw [h421]; exact hW.2.2.1) ?_
  refine a_s1 rfl rfl rfl rfl rfl rfl ?_
  refine a_l1 rfl rfl rfl ?_
  refine a_s rfl rfl ?_
  refine a_ic_ne rfl (fun c => ?_) (fun c => ?_)
  rotate_left
  · rw [show perP T e b W = (false, b, W) from if_pos (hW.2.2.1.trans c)]
    refine a_s rfl rfl ?_
    exact a_zret rfl rfl rfl (QH.no Fm.rf h12)
  have n6 : ¬ pn W = 6 := fun z => c (congrArg nI z)
  rw [show perP T e b W = perB T e W (nbP T e 1 0 15 (nx T e b)) from if_neg fun z => c (hW.2.2.1.symm.trans z)]
  refine a_l0 rfl rfl rfl ?_
  refine a_ldcs (q := 130 + 1) rfl (hw.ld (i := 1) (by decide)) ?_
  refine a_s rfl rfl ?_
  refine a_s rfl rfl ?_
  refine a_gV rfl lX12_117 mo_X12_numberBehind (h_numberBehind (k := 1) (lo := 0) (hi := 15) hw hT (by decide) hq hn (by decide)) rfl rfl rfl ⟨12, _, rfl, rfl, rfl⟩ rfl (fun v' h' hv => ?_)
  obtain ⟨rfl, J1, p1, rfl, f1, g1, z1⟩ := hv
  have hx := nbP_ge0 (T := T) (e := e) (b := nx T e b) (k := 1) (lo := 0) (hi := 15) (by decide)
  generalize nbP T e 1 0 15 (nx T e b) = x at g1 z1 hx ⊢
  refine a_s2 rfl rfl rfl rfl rfl rfl ?_
  refine a_l2 rfl rfl rfl ?_
  refine a_if_ge rfl (fun c1 => ?_) (fun c1 => ?_)
  rotate_left
  · have e1 := hx.resolve_right c1
    rw [show perB T e W x = (false, x.2, W) from if_pos e1]
    refine a_s rfl rfl ?_
    refine a_goto rfl ?_
    refine a_s3 rfl rfl rfl rfl rfl rfl ?_
    refine a_l3 rfl rfl rfl ?_
    refine a_if_ge rfl (fun c => absurd c (by decide)) (fun _ => ?_)
    refine a_s rfl rfl ?_
    exact a_zret rfl rfl rfl (QH.no (Fm.mo f1 sR_sS) (z1 e1))
  have n1 : ¬ x.1 = -1 := fun z => by
    rw [z] at c1
    exact absurd c1 (by decide)
  obtain ⟨q1, b1⟩ := g1 n1
  rw [show perB T e W x = perC W x.1 (nbP T e 2 0 9 x.2) from if_neg n1]
  have eT1 : J1 426 = T := (funext fun k => f1 426 k rfl).trans hT
  refine a_l0 rfl rfl rfl ?_
  refine a_ldcs (q := 130 + 2) rfl (hw.ld (i := 2) (by decide)) ?_
  refine a_s rfl rfl ?_
  refine a_s rfl rfl ?_
  refine a_gV rfl lX12_117 mo_X12_numberBehind (h_numberBehind (k := 2) (lo := 0) (hi := 9) hw eT1 (by decide) q1 b1 (by decide)) rfl rfl rfl ⟨12, _, rfl, rfl, rfl⟩ rfl (fun v' h' hv => ?_)
  obtain ⟨rfl, J2, p2, rfl, f2, g2, z2⟩ := hv
  have hy := nbP_ge0 (T := T) (e := e) (b := x.2) (k := 2) (lo := 0) (hi := 9) (by decide)
  generalize nbP T e 2 0 9 x.2 = y at g2 z2 hy ⊢
  have f12 : Fm sS I J2 := Fm.mo (Fm.tr f1 f2) sR_sS
  refine a_s3 rfl rfl rfl rfl rfl rfl ?_
  refine a_l3 rfl rfl rfl ?_
  refine a_if_ge rfl (fun c2 => ?_) (fun c2 => ?_)
  rotate_left
  · have e2 := hy.resolve_right c2
    rw [show perC W x.1 y = (false, y.2, W) from if_pos e2]
    refine a_s rfl rfl ?_
    exact a_zret rfl rfl rfl (QH.no f12 (z2 e2))
  have n2 : ¬ y.1 = -1 := fun z => by
    rw [z] at c2
    exact absurd c2 (by decide)
  obtain ⟨q2, b2⟩ := g2 n2
  rw [show perC W x.1 y = (true, y.2, addPs W x.1 y.1) from if_neg n2]
  have w2' : J2 421 = W := (funext fun k => (Fm.tr f1 f2) 421 k rfl).trans h421
  refine a_l0 rfl rfl rfl ?_
  refine a_getq rfl gfX12_13_12 rfl (rfl) ?_
  refine a_l1 rfl rfl rfl ?_
  refine a_s rfl rfl ?_
  refine a_eS1 rfl lX12_56 mo_X12_personAt (sp_X12_personAt (d := pn W) (k := 0)) rfl rfl rfl rfl ?_
  refine a_l2 rfl rfl rfl ?_
  refine a_iastv (k := 11 + 2 * pn W) rfl (n := 2033) rfl (inI_nI (by omega) (by omega)) (nI_clamp (by omega)) ?_
  refine a_l0 rfl rfl rfl ?_
  refine a_getq rfl gfX12_13_12 rfl (rfl) ?_
  refine a_l1 rfl rfl rfl ?_
  refine a_s rfl rfl ?_
  refine a_eS1 rfl lX12_56 mo_X12_personAt (sp_X12_personAt (d := pn W) (k := 1)) rfl rfl rfl rfl ?_
  refine a_l3 rfl rfl rfl ?_
  refine a_iastv (k := 11 + 2 * pn W + 1) rfl (n := 2033) rfl (inI_nI (by omega) (by omega)) (nI_clamp (by omega)) ?_
  refine a_l0 rfl rfl rfl ?_
  refine a_getq rfl gfX12_13_12 rfl (rfl) ?_
  refine a_s rfl rfl ?_
  refine a_s rfl rfl ?_
  refine a_ialdv (v := nI (pn W)) rfl (n := 2033) rfl ⟨by decide, by decide⟩ ?_ ?_
  · show up2 (up2 J2 421 (11 + 2 * pn W) x.1) 421 (11 + 2 * pn W + 1) y.1 421 0 = nI (pn W)
    rw [u2_lo (by omega), u2_lo (by omega), w2']
    exact hW.2.2.1
  refine a_s rfl rfl ?_
  refine a_s rfl rfl ?_
  refine a_top (y := nI (pn W + 1)) ((nI_succ _).symm) ?_
  refine a_iastv (k := 0) rfl (n := 2033) rfl ⟨by decide, by decide⟩ rfl ?_
  refine a_s rfl rfl ?_
  refine a_zret rfl rfl rfl (QH.yes (p := p2) ⟨Fm.up (Fm.up (Fm.up f12 (sS_at (stC_of _ (by omega) (by omega) (by omega)))) (sS_at (stC_of _ (by omega) (by omega) (by omega)))) (sS_at rfl), ?_, b2, ?_⟩)
  · unfold Pp
    rw [up2_row (by decide), up2_row (by decide), up2_row (by decide)]
    exact q2
  · rw [up2_ud, up2_ud, up2_ud, w2']
    rfl
theorem h_du156 (hW : WOk W) (h12 : ¬ W 1 = 12) {x0 x1 x2 x3 x4 : Int32} {u5 u7 : Option Value} {J : Nat → Nat → Int32} (C : Hf T e b W I J p) : AW S m_X12_readDuty 21 (QH T e (true, b, addDt W x0 x1 x2 x3 x4) I L w1 w2 t) nX 0 0 156 [some (.ref 420), some (.int (nI (dn W))), some (.int x0), some (.int x1), some (.int x2), u5, some (.int x3), u7, some (.int x4)] [] (hp J L w1 w2 t) := by
  have hlt : dn W < 12 := by
    have := hW.2.1
    have : dn W ≠ 12 := fun z => h12 (by rw [hW.2.2.2, z]; rfl)
    omega
  refine a_l0 rfl rfl rfl ?_
  refine a_getq rfl gfX12_13_12 rfl (rfl) ?_
  refine a_l1 rfl rfl rfl ?_
  refine a_s rfl rfl ?_
  refine a_eS1 rfl lX12_60 mo_X12_at (sp_X12_at (d := dn W) (k := 0)) rfl rfl rfl rfl ?_
  refine a_l2 rfl rfl rfl ?_
  refine a_iastv (k := 23 + 6 * dn W + 0) rfl (n := 2033) rfl (inI_nI (by omega) (by omega)) (nI_clamp (by omega)) ?_
  refine a_l0 rfl rfl rfl ?_
  refine a_getq rfl gfX12_13_12 rfl (rfl) ?_
  refine a_l1 rfl rfl rfl ?_
  refine a_s rfl rfl ?_
  refine a_eS1 rfl lX12_60 mo_X12_at (sp_X12_at (d := dn W) (k := 1)) rfl rfl rfl rfl ?_
  refine a_l3 rfl rfl rfl ?_
  refine a_iastv (k := 23 + 6 * dn W + 1) rfl (n := 2033) rfl (inI_nI (by omega) (by omega)) (nI_clamp (by omega)) ?_
  refine a_l0 rfl rfl rfl ?_
  refine a_getq rfl gfX12_13_12 rfl (rfl) ?_
  refine a_l1 rfl rfl rfl ?_
  refine a_s rfl rfl ?_
  refine a_eS1 rfl lX12_60 mo_X12_at (sp_X12_at (d := dn W) (k := 2)) rfl rfl rfl rfl ?_
  refine a_l4 rfl rfl rfl ?_
  refine a_iastv (k := 23 + 6 * dn W + 2) rfl (n := 2033) rfl (inI_nI (by omega) (by omega)) (nI_clamp (by omega)) ?_
  refine a_l0 rfl rfl rfl ?_
  refine a_getq rfl gfX12_13_12 rfl (rfl) ?_
  refine a_l1 rfl rfl rfl ?_
  refine a_s rfl rfl ?_
  refine a_eS1 rfl lX12_60 mo_X12_at (sp_X12_at (d := dn W) (k := 3)) rfl rfl rfl rfl ?_
  refine a_l6 rfl rfl rfl ?_
  refine a_iastv (k := 23 + 6 * dn W + 3) rfl (n := 2033) rfl (inI_nI (by omega) (by omega)) (nI_clamp (by omega)) ?_
  refine a_l0 rfl rfl rfl ?_
  refine a_getq rfl gfX12_13_12 rfl (rfl) ?_
  refine a_l1 rfl rfl rfl ?_
  refine a_s rfl rfl ?_
  refine a_eS1 rfl lX12_60 mo_X12_at (sp_X12_at (d := dn W) (k := 4)) rfl rfl rfl rfl ?_
  refine a_l8 rfl rfl rfl ?_
  refine a_iastv (k := 23 + 6 * dn W + 4) rfl (n := 2033) rfl (inI_nI (by omega) (by omega)) (nI_clamp (by omega)) ?_
  refine a_l0 rfl rfl rfl ?_
  refine a_getq rfl gfX12_13_12 rfl (rfl) ?_
  refine a_l1 rfl rfl rfl ?_
  refine a_s rfl rfl ?_
  refine a_eS1 rfl lX12_60 mo_X12_at (sp_X12_at (d := dn W) (k := 5)) rfl rfl rfl rfl ?_
  refine a_s rfl rfl ?_
  refine a_iastv (k := 23 + 6 * dn W + 5) rfl (n := 2033) rfl (inI_nI (by omega) (by omega)) (nI_clamp (by omega)) ?_
  refine a_l0 rfl rfl rfl ?_
  refine a_getq rfl gfX12_13_12 rfl (rfl) ?_
  refine a_s rfl rfl ?_
  refine a_s rfl rfl ?_
  refine a_ialdv (v := nI (dn W)) rfl (n := 2033) rfl ⟨by decide, by decide⟩ ?_ ?_
  · show up2 (up2 (up2 (up2 (up2 (up2 J 421 (23 + 6 * dn W + 0) _) 421 (23 + 6 * dn W + 1) _) 421 (23 + 6 * dn W + 2) _) 421 (23 + 6 * dn W + 3) _) 421 (23 + 6 * dn W + 4) _) 421 (23 + 6 * dn W + 5) _ 421 1 = nI (dn W)
    rw [u2_lo (by omega), u2_lo (by omega), u2_lo (by omega), u2_lo (by omega), u2_lo (by omega), u2_lo (by omega), Hf.wd C]
    exact hW.2.2.2
  refine a_s rfl rfl ?_
  refine a_s rfl rfl ?_
  refine a_top (y := nI (dn W + 1)) ((nI_succ _).symm) ?_
  refine a_iastv (k := 1) rfl (n := 2033) rfl ⟨by decide, by decide⟩ rfl ?_
  refine a_s rfl rfl ?_
  refine a_zret rfl rfl rfl (QH.yes (p := p) ⟨dutH_fm hlt C.1, ?_, Hf.nb C, ?_⟩)
  · unfold Pp
    rw [up2_row (by decide), up2_row (by decide), up2_row (by decide), up2_row (by decide), up2_row (by decide), up2_row (by decide), up2_row (by decide)]
    exact Hf.pp C
  · rw [up2_ud, up2_ud, up2_ud, up2_ud, up2_ud, up2_ud, up2_ud, Hf.wd C]
    rfl
theorem h_du117 (hw : WdS S) (hW : WOk W) (h12 : ¬ W 1 = 12) (hT : I 426 = T) {x0 x1 x2 x3 : Int32} {u5 : Option Value} {J : Nat → Nat → Int32} (C : Hf T e b W I J p) : AW S m_X12_readDuty 21 (QH T e (duE W x0 x1 x2 x3 (optP T e 8 0 (W 1 - 1) (-1) b)) I L w1 w2 t) nX 0 0 117 [some (.ref 420), some (.int (nI (dn W))), some (.int x0), some (.int x1), some (.int x2), u5, some (.int x3), none, none] [] (hp J L w1 w2 t) := by
  have eT := Hf.tt C hT
  refine a_l0 rfl rfl rfl ?_
  refine a_ldcs (q := 130 + 8) rfl (hw.ld (i := 8) (by decide)) ?_
  refine a_gV rfl lX12_128 mo_X12_passes (h_passes (b := b) (k := 8) hw (by decide) (Hf.pp C) (by rw [eT]; exact Hf.nb C)) rfl rfl rfl ⟨12, _, rfl, rfl, rfl⟩ rfl (fun v' h' hv => ?_)
  obtain ⟨rfl, K, rfl, h2⟩ := hv
  rw [eT] at h2 ⊢
  obtain ⟨z, cz⟩ : ∃ z, isWd T e b 8 = z := ⟨_, rfl⟩
  rw [cz] at h2 ⊢
  refine a_s7 rfl rfl rfl rfl rfl rfl ?_
  refine a_l7 rfl rfl rfl ?_
  cases z with
  | false =>
    rw [if_neg Bool.false_ne_true] at h2
    rw [show optP T e 8 0 (W 1 - 1) (-1) b = (true, (-1), b) from if_neg (by rw [cz]; exact Bool.false_ne_true), show duE W x0 x1 x2 x3 (true, (-1), b) = (true, b, addDt W x0 x1 x2 x3 (-1)) from if_pos rfl]
    refine a_if_eq rfl (fun _ => ?_) (fun z => absurd rfl z)
    refine a_s rfl rfl ?_
    refine a_s8 rfl rfl rfl rfl rfl rfl ?_
    refine a_l7 rfl rfl rfl ?_
    refine a_if_eq rfl (fun _ => ?_) (fun z => absurd rfl z)
    exact h_du156 hW h12 (Hf.rd C h2 (Hf.sk C))
  | true =>
    rw [if_pos rfl] at h2
    refine a_if_eq rfl (fun z => absurd z (by decide)) (fun _ => ?_)
    have C2 : Hf T e (nx T e b) W I K (en T e b) := Hf.rd C h2 rfl
    have eT2 := Hf.tt C2 hT
    refine a_l0 rfl rfl rfl ?_
    refine a_s rfl rfl ?_
    refine a_l1 rfl rfl rfl ?_
    refine a_s rfl rfl ?_
    refine a_s rfl rfl ?_
    refine a_top (y := W 1 - 1) (by rw [hW.2.2.2]) ?_
    refine a_gV rfl lX12_113 mo_X12_number (h_number (b := nx T e b) (x := 0) (y := (W 1 - 1)) (Hf.pp C2) (by rw [eT2]; exact Hf.nb C2) (by decide)) rfl rfl rfl ⟨12, _, rfl, rfl, rfl⟩ rfl (fun v' h' hv => ?_)
    obtain ⟨rfl, K2, rfl, h3⟩ := hv
    rw [eT2] at h3 ⊢
    refine a_goto rfl ?_
    refine a_s8 rfl rfl rfl rfl rfl rfl ?_
    refine a_l7 rfl rfl rfl ?_
    refine a_if_eq rfl (fun z => absurd z (by decide)) (fun _ => ?_)
    refine a_l8 rfl rfl rfl ?_
    by_cases cn : nm T e (nx T e b) 0 (W 1 - 1) = -1
    · rw [show optP T e 8 0 (W 1 - 1) (-1) b = (false, -1, nx T e b) from (if_pos cz).trans (if_pos cn), show duE W x0 x1 x2 x3 (false, -1, nx T e b) = (false, nx T e b, W) from if_neg Bool.false_ne_true, cn]
      refine a_if_ge rfl (fun c => absurd c (by decide)) (fun _ => ?_)
      refine a_s rfl rfl ?_
      exact a_zret rfl rfl rfl (QH.no (Fm.tr C2.1 (Fm.mo (Rd.fm h3) sR_sS)) (Rd.be h3))
    · rw [show optP T e 8 0 (W 1 - 1) (-1) b = (true, nm T e (nx T e b) 0 (W 1 - 1), nx T e (nx T e b)) from (if_pos cz).trans (if_neg cn), show duE W x0 x1 x2 x3 (true, nm T e (nx T e b) 0 (W 1 - 1), nx T e (nx T e b)) = (true, (nx T e (nx T e b)), addDt W x0 x1 x2 x3 (nm T e (nx T e b) 0 (W 1 - 1))) from if_pos rfl]
      refine a_if_ge rfl (fun _ => ?_) (fun c => absurd (nm_in cn).1 c)
      exact h_du156 hW h12 (Hf.rd C2 h3 (by rw [← en_2 (nm_in cn).2.2.1]; rfl))
theorem h_du80 (hw : WdS S) (hW : WOk W) (h12 : ¬ W 1 = 12) (hT : I 426 = T) {x0 x1 x2 : Int32} {J : Nat → Nat → Int32} (C : Hf T e b W I J p) : AW S m_X12_readDuty 21 (QH T e (duD T e W x0 x1 x2 (optP T e 7 0 5 (-1) b)) I L w1 w2 t) nX 0 0 80 [some (.ref 420), some (.int (nI (dn W))), some (.int x0), some (.int x1), some (.int x2), none, none, none, none] [] (hp J L w1 w2 t) := by
  have eT := Hf.tt C hT
  refine a_l0 rfl rfl rfl ?_
  refine a_ldcs (q := 130 + 7) rfl (hw.ld (i := 7) (by decide)) ?_
  refine a_gV rfl lX12_128 mo_X12_passes (h_passes (b := b) (k := 7) hw (by decide) (Hf.pp C) (by rw [eT]; exact Hf.nb C)) rfl rfl rfl ⟨12, _, rfl, rfl, rfl⟩ rfl (fun v' h' hv => ?_)
  obtain ⟨rfl, K, rfl, h2⟩ := hv
  rw [eT] at h2 ⊢
  obtain ⟨z, cz⟩ : ∃ z, isWd T e b 7 = z := ⟨_, rfl⟩
  rw [cz] at h2 ⊢
  refine a_s5 rfl rfl rfl rfl rfl rfl ?_
  refine a_l5 rfl rfl rfl ?_
  cases z with
  | false =>
    rw [if_neg Bool.false_ne_true] at h2
    rw [show optP T e 7 0 5 (-1) b = (true, (-1), b) from if_neg (by rw [cz]; exact Bool.false_ne_true), show duD T e W x0 x1 x2 (true, (-1), b) = duE W x0 x1 x2 (-1) (optP T e 8 0 (W 1 - 1) (-1) b) from if_pos rfl]
    refine a_if_eq rfl (fun _ => ?_) (fun z => absurd rfl z)
    refine a_s rfl rfl ?_
    refine a_s6 rfl rfl rfl rfl rfl rfl ?_
    refine a_l5 rfl rfl rfl ?_
    refine a_if_eq rfl (fun _ => ?_) (fun z => absurd rfl z)
    exact h_du117 hw hW h12 hT (Hf.rd C h2 (Hf.sk C))
  | true =>
    rw [if_pos rfl] at h2
    refine a_if_eq rfl (fun z => absurd z (by decide)) (fun _ => ?_)
    have C2 : Hf T e (nx T e b) W I K (en T e b) := Hf.rd C h2 rfl
    have eT2 := Hf.tt C2 hT
    refine a_l0 rfl rfl rfl ?_
    refine a_s rfl rfl ?_
    refine a_s rfl rfl ?_
    refine a_gV rfl lX12_113 mo_X12_number (h_number (b := nx T e b) (x := 0) (y := 5) (Hf.pp C2) (by rw [eT2]; exact Hf.nb C2) (by decide)) rfl rfl rfl ⟨12, _, rfl, rfl, rfl⟩ rfl (fun v' h' hv => ?_)
    obtain ⟨rfl, K2, rfl, h3⟩ := hv
    rw [eT2] at h3 ⊢
    refine a_goto rfl ?_
    refine a_s6 rfl rfl rfl rfl rfl rfl ?_
    refine a_l5 rfl rfl rfl ?_
    refine a_if_eq rfl (fun z => absurd z (by decide)) (fun _ => ?_)
    refine a_l6 rfl rfl rfl ?_
    by_cases cn : nm T e (nx T e b) 0 5 = -1
    · rw [show optP T e 7 0 5 (-1) b = (false, -1, nx T e b) from (if_pos cz).trans (if_pos cn), show duD T e W x0 x1 x2 (false, -1, nx T e b) = (false, nx T e b, W) from if_neg Bool.false_ne_true, cn]
      refine a_if_ge rfl (fun c => absurd c (by decide)) (fun _ => ?_)
      refine a_s rfl rfl ?_
      exact a_zret rfl rfl rfl (QH.no (Fm.tr C2.1 (Fm.mo (Rd.fm h3) sR_sS)) (Rd.be h3))
    · rw [show optP T e 7 0 5 (-1) b = (true, nm T e (nx T e b) 0 5, nx T e (nx T e b)) from (if_pos cz).trans (if_neg cn), show duD T e W x0 x1 x2 (true, nm T e (nx T e b) 0 5, nx T e (nx T e b)) = duE W x0 x1 x2 (nm T e (nx T e b) 0 5) (optP T e 8 0 (W 1 - 1) (-1) (nx T e (nx T e b))) from if_pos rfl]
      refine a_if_ge rfl (fun _ => ?_) (fun c => absurd (nm_in cn).1 c)
      exact h_du117 hw hW h12 hT (Hf.rd C2 h3 (by rw [← en_2 (nm_in cn).2.2.1]; rfl))
theorem h_du51 (hw : WdS S) (hW : WOk W) (h12 : ¬ W 1 = 12) (hT : I 426 = T) {x0 x1 : Int32} {J : Nat → Nat → Int32} (C : Hf T e b W I J p) : AW S m_X12_readDuty 21 (QH T e (duC T e W x0 x1 (optP T e 6 0 99 0 b)) I L w1 w2 t) nX 0 0 51 [some (.ref 420), some (.int (nI (dn W))), some (.int x0), some (.int x1), none, none, none, none, none] [] (hp J L w1 w2 t) := by
  have eT := Hf.tt C hT
  refine a_l0 rfl rfl rfl ?_
  refine a_ldcs (q := 130 + 6) rfl (hw.ld (i := 6) (by decide)) ?_
  refine a_gV rfl lX12_128 mo_X12_passes (h_passes (b := b) (k := 6) hw (by decide) (Hf.pp C) (by rw [eT]; exact Hf.nb C)) rfl rfl rfl ⟨12, _, rfl, rfl, rfl⟩ rfl (fun v' h' hv => ?_)
  obtain ⟨rfl, K, rfl, h2⟩ := hv
  rw [eT] at h2 ⊢
  obtain ⟨z, cz⟩ : ∃ z, isWd T e b 6 = z := ⟨_, rfl⟩
  rw [cz] at h2 ⊢
  cases z with
  | false =>
    rw [if_neg Bool.false_ne_true] at h2
    rw [show optP T e 6 0 99 0 b = (true, 0, b) from if_neg (by rw [cz]; exact Bool.false_ne_true), show duC T e W x0 x1 (true, 0, b) = duD T e W x0 x1 0 (optP T e 7 0 5 (-1) b) from if_pos rfl]
    refine a_if_eq rfl (fun _ => ?_) (fun z => absurd rfl z)
    refine a_s rfl rfl ?_
    refine a_s4 rfl rfl rfl rfl rfl rfl ?_
    refine a_l4 rfl rfl rfl ?_
    refine a_if_ge rfl (fun _ => ?_) (fun z => absurd (by decide) z)
    exact h_du80 hw hW h12 hT (Hf.rd C h2 (Hf.sk C))
  | true =>
    rw [if_pos rfl] at h2
    refine a_if_eq rfl (fun z => absurd z (by decide)) (fun _ => ?_)
    have C2 : Hf T e (nx T e b) W I K (en T e b) := Hf.rd C h2 rfl
    have eT2 := Hf.tt C2 hT
    refine a_l0 rfl rfl rfl ?_
    refine a_s rfl rfl ?_
    refine a_s rfl rfl ?_
    refine a_gV rfl lX12_113 mo_X12_number (h_number (b := nx T e b) (x := 0) (y := 99) (Hf.pp C2) (by rw [eT2]; exact Hf.nb C2) (by decide)) rfl rfl rfl ⟨12, _, rfl, rfl, rfl⟩ rfl (fun v' h' hv => ?_)
    obtain ⟨rfl, K2, rfl, h3⟩ := hv
    rw [eT2] at h3 ⊢
    refine a_goto rfl ?_
    refine a_s4 rfl rfl rfl rfl rfl rfl ?_
    refine a_l4 rfl rfl rfl ?_
    by_cases cn : nm T e (nx T e b) 0 99 = -1
    · rw [show optP T e 6 0 99 0 b = (false, -1, nx T e b) from (if_pos cz).trans (if_pos cn), show duC T e W x0 x1 (false, -1, nx T e b) = (false, nx T e b, W) from if_neg Bool.false_ne_true, cn]
      refine a_if_ge rfl (fun c => absurd c (by decide)) (fun _ => ?_)
      refine a_s rfl rfl ?_
      exact a_zret rfl rfl rfl (QH.no (Fm.tr C2.1 (Fm.mo (Rd.fm h3) sR_sS)) (Rd.be h3))
    · rw [show optP T e 6 0 99 0 b = (true, nm T e (nx T e b) 0 99, nx T e (nx T e b)) from (if_pos cz).trans (if_neg cn), show duC T e W x0 x1 (true, nm T e (nx T e b) 0 99, nx T e (nx T e b)) = duD T e W x0 x1 (nm T e (nx T e b) 0 99) (optP T e 7 0 5 (-1) (nx T e (nx T e b))) from if_pos rfl]
      refine a_if_ge rfl (fun _ => ?_) (fun c => absurd (nm_in cn).1 c)
      exact h_du80 hw hW h12 hT (Hf.rd C2 h3 (by rw [← en_2 (nm_in cn).2.2.1]; rfl))
theorem h_readDuty (hw : WdS S) (hT : I 426 = T) (hq : Pp e p I) (hn : rn T e 4 p = nx T e b) (h12 : I 420 12 = nI b) (h421 : I 421 = W) (hW : WOk W) : Sp S m_X12_readDuty 21 0 0 [.ref 420] (hp I L w1 w2 t) (QH T e (dutP T e b W) I L w1 w2 t) nX := by
  have hd12 := hW.2.1
  refine Sp_of ok_X12_readDuty rfl rfl ?_
  show AW S m_X12_readDuty 21 _ _ 0 0 0 [some (.ref 420), none, none, none, none, none, none, none, none] [] (hp I L w1 w2 t)
  refine a_l0 rfl rfl rfl ?_
  refine a_eV1 rfl lX12_74 mo_X12_duties sp_X12_duties rfl rfl rfl ⟨12, _, rfl, rfl, rfl⟩ rfl ?_
  refine a_top (y := nI (dn W)) (by rw [h421]; exact hW.2.2.2) ?_
  refine a_s1 rfl rfl rfl rfl rfl rfl ?_
  refine a_l1 rfl rfl rfl ?_
  refine a_s rfl rfl ?_
  refine a_ic_ne rfl (fun c => ?_) (fun c => ?_)
  rotate_left
  · rw [show dutP T e b W = (false, b, W) from if_pos (hW.2.2.2.trans c)]
    refine a_s rfl rfl ?_
    exact a_zret rfl rfl rfl (QH.no Fm.rf h12)
  have h12' : ¬ W 1 = 12 := fun z => c (hW.2.2.2.symm.trans z)
  rw [show dutP T e b W = duA T e W (nbP T e 4 0 (W 0 - 1) (nx T e b)) from if_neg h12']
  refine a_l0 rfl rfl rfl ?_
  refine a_ldcs (q := 130 + 4) rfl (hw.ld (i := 4) (by decide)) ?_
  refine a_s rfl rfl ?_
  refine a_l0 rfl rfl rfl ?_
  refine a_eV1 rfl lX12_66 mo_X12_people sp_X12_people rfl rfl rfl ⟨12, _, rfl, rfl, rfl⟩ rfl ?_
  refine a_s rfl rfl ?_
  refine a_s rfl rfl ?_
  refine a_top (y := W 0 - 1) (by rw [h421]) ?_
  refine a_gV rfl lX12_117 mo_X12_numberBehind (h_numberBehind (k := 4) (lo := 0) (hi := W 0 - 1) hw hT (by decide) hq hn (by decide)) rfl rfl rfl ⟨12, _, rfl, rfl, rfl⟩ rfl (fun v' h' hv => ?_)
  obtain ⟨rfl, J1, p1, rfl, f1, g1, z1⟩ := hv
  have hx := nbP_ge0 (T := T) (e := e) (b := nx T e b) (k := 4) (lo := 0) (hi := W 0 - 1) (by decide)
  generalize nbP T e 4 0 (W 0 - 1) (nx T e b) = x at g1 z1 hx ⊢
  refine a_s2 rfl rfl rfl rfl rfl rfl ?_
  refine a_l2 rfl rfl rfl ?_
  refine a_if_ge rfl (fun c1 => ?_) (fun c1 => ?_)
  rotate_left
  · have e1 := hx.resolve_right c1
    rw [show duA T e W x = (false, x.2, W) from if_pos e1]
    refine a_s rfl rfl ?_
    refine a_goto rfl ?_
    refine a_s3 rfl rfl rfl rfl rfl rfl ?_
    refine a_l3 rfl rfl rfl ?_
    refine a_if_ge rfl (fun c => absurd c (by decide)) (fun _ => ?_)
    refine a_s rfl rfl ?_
    exact a_zret rfl rfl rfl (QH.no (Fm.mo f1 sR_sS) (z1 e1))
  have n1 : ¬ x.1 = -1 := fun z => by
    rw [z] at c1
    exact absurd c1 (by decide)
  obtain ⟨q1, b1⟩ := g1 n1
  rw [show duA T e W x = duB T e W x.1 (nbP T e 5 1 99 x.2) from if_neg n1]
  have eT1 : J1 426 = T := (funext fun k => f1 426 k rfl).trans hT
  refine a_l0 rfl rfl rfl ?_
  refine a_ldcs (q := 130 + 5) rfl (hw.ld (i := 5) (by decide)) ?_
  refine a_s rfl rfl ?_
  refine a_s rfl rfl ?_
  refine a_gV rfl lX12_117 mo_X12_numberBehind (h_numberBehind (k := 5) (lo := 1) (hi := 99) hw eT1 (by decide) q1 b1 (by decide)) rfl rfl rfl ⟨12, _, rfl, rfl, rfl⟩ rfl (fun v' h' hv => ?_)
  obtain ⟨rfl, J2, p2, rfl, f2, g2, z2⟩ := hv
  have hy := nbP_ge0 (T := T) (e := e) (b := x.2) (k := 5) (lo := 1) (hi := 99) (by decide)
  generalize nbP T e 5 1 99 x.2 = y at g2 z2 hy ⊢
  have f12 : Fm sS I J2 := Fm.mo (Fm.tr f1 f2) sR_sS
  refine a_s3 rfl rfl rfl rfl rfl rfl ?_
  refine a_l3 rfl rfl rfl ?_
  refine a_if_ge rfl (fun c2 => ?_) (fun c2 => ?_)
  rotate_left
  · have e2 := hy.resolve_right c2
    rw [show duB T e W x.1 y = (false, y.2, W) from if_pos e2]
    refine a_s rfl rfl ?_
    exact a_zret rfl rfl rfl (QH.no f12 (z2 e2))
  have n2 : ¬ y.1 = -1 := fun z => by
    rw [z] at c2
    exact absurd c2 (by decide)
  obtain ⟨q2, b2⟩ := g2 n2
  rw [show duB T e W x.1 y = duC T e W x.1 y.1 (optP T e 6 0 99 0 y.2) from if_neg n2]
  exact h_du51 hw hW h12' hT ⟨f12, q2, b2, (funext fun k => (Fm.tr f1 f2) 421 k rfl).trans h421⟩
theorem h_readStreetLine (hw : WdS S) (hT : I 426 = T) (h12 : I 420 12 = nI b) (hbp : b ≤ p) (hq : Pp e p I) (hp1 : p = rn T e 1 b) (h421 : I 421 = W) (hW : WOk W) : Sp S m_X12_readStreetLine 22 0 0 [.ref 420] (hp I L w1 w2 t) (QH T e (linP T e b W) I L w1 w2 t) nX := by
  have hi : ∀ k, k < 27 → isW (I 426) b (p - b) k = isWd T e b k := fun k hk => by
    rw [hT, hp1]
    exact isW_wd hk
  have hn : ∀ {k}, isWd T e b k = true → rn T e 4 p = nx T e b := fun {k} z => by
    rw [hp1, ← en_1 (of_decide_eq_true z).1]
    rfl
  refine Sp_of ok_X12_readStreetLine rfl rfl ?_
  show AW S m_X12_readStreetLine 22 _ _ 0 0 0 [some (.ref 420)] [] (hp I L w1 w2 t)
  refine a_l0 rfl rfl rfl ?_
  refine a_ldcs (q := 130 + 0) rfl (hw.ld (i := 0) (by decide)) ?_
  refine a_eV1 rfl lX12_109 mo_X12_isWord (h_isWord (k := 0) hw (by decide) h12 hbp hq) rfl rfl rfl ⟨12, _, rfl, rfl, rfl⟩ rfl ?_
  obtain ⟨z, cz⟩ : ∃ z, isWd T e b 0 = z := ⟨_, rfl⟩
  refine a_top (y := bI z) (congrArg bI ((hi 0 (by decide)).trans cz)) ?_
  cases z with
  | true =>
    refine a_if_eq rfl (fun z => absurd z (by decide)) (fun _ => ?_)
    rw [show linP T e b W = perP T e b W from if_pos cz]
    refine a_l0 rfl rfl rfl ?_
    refine a_gV rfl lX12_141 mo_X12_readPerson (h_readPerson hw hT hq (hn cz) h12 h421 hW) rfl rfl rfl ⟨12, _, rfl, rfl, rfl⟩ rfl (fun v' h' hv => ?_)
    obtain ⟨rfl, J, p', rfl, y, n⟩ := hv
    exact a_zret rfl rfl (bI_nar _) ⟨rfl, J, p', rfl, y, n⟩
  | false =>
  have n0 : ¬ isWd T e b 0 = true := by rw [cz]; exact Bool.false_ne_true
  clear cz
  refine a_if_eq rfl (fun _ => ?_) (fun z => absurd rfl z)
  refine a_l0 rfl rfl rfl ?_
  refine a_ldcs (q := 130 + 3) rfl (hw.ld (i := 3) (by decide)) ?_
  refine a_eV1 rfl lX12_109 mo_X12_isWord (h_isWord (k := 3) hw (by decide) h12 hbp hq) rfl rfl rfl ⟨12, _, rfl, rfl, rfl⟩ rfl ?_
  obtain ⟨z, cz⟩ : ∃ z, isWd T e b 3 = z := ⟨_, rfl⟩
  refine a_top (y := bI z) (congrArg bI ((hi 3 (by decide)).trans cz)) ?_
  cases z with
  | true =>
    refine a_if_eq rfl (fun z => absurd z (by decide)) (fun _ => ?_)
    rw [show linP T e b W = dutP T e b W from (if_neg n0).trans (if_pos cz)]
    refine a_l0 rfl rfl rfl ?_
    refine a_gV rfl lX12_147 mo_X12_readDuty (h_readDuty hw hT hq (hn cz) h12 h421 hW) rfl rfl rfl ⟨12, _, rfl, rfl, rfl⟩ rfl (fun v' h' hv => ?_)
    obtain ⟨rfl, J, p', rfl, y, n⟩ := hv
    exact a_zret rfl rfl (bI_nar _) ⟨rfl, J, p', rfl, y, n⟩
  | false =>
  have n3 : ¬ isWd T e b 3 = true := by rw [cz]; exact Bool.false_ne_true
  clear cz
  refine a_if_eq rfl (fun _ => ?_) (fun z => absurd rfl z)
  refine a_l0 rfl rfl rfl ?_
  refine a_ldcs (q := 130 + 9) rfl (hw.ld (i := 9) (by decide)) ?_
  refine a_eV1 rfl lX12_109 mo_X12_isWord (h_isWord (k := 9) hw (by decide) h12 hbp hq) rfl rfl rfl ⟨12, _, rfl, rfl, rfl⟩ rfl ?_
  obtain ⟨z, cz⟩ : ∃ z, isWd T e b 9 = z := ⟨_, rfl⟩
  refine a_top (y := bI z) (congrArg bI ((hi 9 (by decide)).trans cz)) ?_
  cases z with
  | true =>
    refine a_if_eq rfl (fun z => absurd z (by decide)) (fun _ => ?_)
    rw [show linP T e b W = forP T e (nx T e b) W from (if_neg n0).trans ((if_neg n3).trans (if_pos cz))]
    refine a_l0 rfl rfl rfl ?_
    refine a_gV rfl lX12_152 mo_X12_readForgotten (h_readForgotten (b := nx T e b) hT hq (hn cz) h421 hW) rfl rfl rfl ⟨12, _, rfl, rfl, rfl⟩ rfl (fun v' h' hv => ?_)
    obtain ⟨rfl, J, p', rfl, y, n⟩ := hv
    exact a_zret rfl rfl (bI_nar _) ⟨rfl, J, p', rfl, y, n⟩
  | false =>
  have n9 : ¬ isWd T e b 9 = true := by rw [cz]; exact Bool.false_ne_true
  clear cz
  refine a_if_eq rfl (fun _ => ?_) (fun z => absurd rfl z)
  refine a_l0 rfl rfl rfl ?_
  refine a_ldcs (q := 130 + 10) rfl (hw.ld (i := 10) (by decide)) ?_
  refine a_eV1 rfl lX12_109 mo_X12_isWord (h_isWord (k := 10) hw (by decide) h12 hbp hq) rfl rfl rfl ⟨12, _, rfl, rfl, rfl⟩ rfl ?_
  obtain ⟨z, cz⟩ : ∃ z, isWd T e b 10 = z := ⟨_, rfl⟩
  refine a_top (y := bI z) (congrArg bI ((hi 10 (by decide)).trans cz)) ?_
  cases z with
  | true =>
    refine a_if_eq rfl (fun z => absurd z (by decide)) (fun _ => ?_)
    rw [show linP T e b W = setP T e (nx T e b) W 6 0 100 from (if_neg n0).trans ((if_neg n3).trans ((if_neg n9).trans (if_pos cz)))]
    refine a_l0 rfl rfl rfl ?_
    refine a_s rfl rfl ?_
    refine a_s rfl rfl ?_
    refine a_s rfl rfl ?_
    refine a_gV rfl lX12_157 mo_X12_readNumber (h_readNumber (i := 6) (b := nx T e b) hT hq (hn cz) h421 (by decide) (by decide) (by decide)) rfl rfl rfl ⟨12, _, rfl, rfl, rfl⟩ rfl (fun v' h' hv => ?_)
    obtain ⟨rfl, J, p', rfl, y, n⟩ := hv
    exact a_zret rfl rfl (bI_nar _) ⟨rfl, J, p', rfl, y, n⟩
  | false =>
  have n10 : ¬ isWd T e b 10 = true := by rw [cz]; exact Bool.false_ne_true
  clear cz
  refine a_if_eq rfl (fun _ => ?_) (fun z => absurd rfl z)
  refine a_l0 rfl rfl rfl ?_
  refine a_ldcs (q := 130 + 11) rfl (hw.ld (i := 11) (by decide)) ?_
  refine a_eV1 rfl lX12_109 mo_X12_isWord (h_isWord (k := 11) hw (by decide) h12 hbp hq) rfl rfl rfl ⟨12, _, rfl, rfl, rfl⟩ rfl ?_
  obtain ⟨z, cz⟩ : ∃ z, isWd T e b 11 = z := ⟨_, rfl⟩
  refine a_top (y := bI z) (congrArg bI ((hi 11 (by decide)).trans cz)) ?_
  cases z with
  | true =>
    refine a_if_eq rfl (fun z => absurd z (by decide)) (fun _ => ?_)
    rw [show linP T e b W = setP T e (nx T e b) W 7 1 9 from (if_neg n0).trans ((if_neg n3).trans ((if_neg n9).trans ((if_neg n10).trans (if_pos cz))))]
    refine a_l0 rfl rfl rfl ?_
    refine a_s rfl rfl ?_
    refine a_s rfl rfl ?_
    refine a_s rfl rfl ?_
    refine a_gV rfl lX12_157 mo_X12_readNumber (h_readNumber (i := 7) (b := nx T e b) hT hq (hn cz) h421 (by decide) (by decide) (by decide)) rfl rfl rfl ⟨12, _, rfl, rfl, rfl⟩ rfl (fun v' h' hv => ?_)
    obtain ⟨rfl, J, p', rfl, y, n⟩ := hv
    exact a_zret rfl rfl (bI_nar _) ⟨rfl, J, p', rfl, y, n⟩
  | false =>
  have n11 : ¬ isWd T e b 11 = true := by rw [cz]; exact Bool.false_ne_true
  clear cz
  refine a_if_eq rfl (fun _ => ?_) (fun z => absurd rfl z)
  refine a_l0 rfl rfl rfl ?_
  refine a_ldcs (q := 130 + 12) rfl (hw.ld (i := 12) (by decide)) ?_
  refine a_eV1 rfl lX12_109 mo_X12_isWord (h_isWord (k := 12) hw (by decide) h12 hbp hq) rfl rfl rfl ⟨12, _, rfl, rfl, rfl⟩ rfl ?_
  obtain ⟨z, cz⟩ : ∃ z, isWd T e b 12 = z := ⟨_, rfl⟩
  refine a_top (y := bI z) (congrArg bI ((hi 12 (by decide)).trans cz)) ?_
  cases z with
  | true =>
    refine a_if_eq rfl (fun z => absurd z (by decide)) (fun _ => ?_)
    rw [show linP T e b W = setP T e (nx T e b) W 8 0 50 from (if_neg n0).trans ((if_neg n3).trans ((if_neg n9).trans ((if_neg n10).trans ((if_neg n11).trans (if_pos cz)))))]
    refine a_l0 rfl rfl rfl ?_
    refine a_s rfl rfl ?_
    refine a_s rfl rfl ?_
    refine a_s rfl rfl ?_
    refine a_gV rfl lX12_157 mo_X12_readNumber (h_readNumber (i := 8) (b := nx T e b) hT hq (hn cz) h421 (by decide) (by decide) (by decide)) rfl rfl rfl ⟨12, _, rfl, rfl, rfl⟩ rfl (fun v' h' hv => ?_)
    obtain ⟨rfl, J, p', rfl, y, n⟩ := hv
    exact a_zret rfl rfl (bI_nar _) ⟨rfl, J, p', rfl, y, n⟩
  | false =>
  have n12 : ¬ isWd T e b 12 = true := by rw [cz]; exact Bool.false_ne_true
  clear cz
  refine a_if_eq rfl (fun _ => ?_) (fun z => absurd rfl z)
  refine a_l0 rfl rfl rfl ?_
  refine a_ldcs (q := 130 + 13) rfl (hw.ld (i := 13) (by decide)) ?_
  refine a_eV1 rfl lX12_109 mo_X12_isWord (h_isWord (k := 13) hw (by decide) h12 hbp hq) rfl rfl rfl ⟨12, _, rfl, rfl, rfl⟩ rfl ?_
  obtain ⟨z, cz⟩ : ∃ z, isWd T e b 13 = z := ⟨_, rfl⟩
  refine a_top (y := bI z) (congrArg bI ((hi 13 (by decide)).trans cz)) ?_
  cases z with
  | true =>
    refine a_if_eq rfl (fun z => absurd z (by decide)) (fun _ => ?_)
    rw [show linP T e b W = setP T e (nx T e b) W 4 1 30 from (if_neg n0).trans ((if_neg n3).trans ((if_neg n9).trans ((if_neg n10).trans ((if_neg n11).trans ((if_neg n12).trans (if_pos cz))))))]
    refine a_l0 rfl rfl rfl ?_
    refine a_s rfl rfl ?_
    refine a_s rfl rfl ?_
    refine a_s rfl rfl ?_
    refine a_gV rfl lX12_157 mo_X12_readNumber (h_readNumber (i := 4) (b := nx T e b) hT hq (hn cz) h421 (by decide) (by decide) (by decide)) rfl rfl rfl ⟨12, _, rfl, rfl, rfl⟩ rfl (fun v' h' hv => ?_)
    obtain ⟨rfl, J, p', rfl, y, n⟩ := hv
    exact a_zret rfl rfl (bI_nar _) ⟨rfl, J, p', rfl, y, n⟩
  | false =>
  have n13 : ¬ isWd T e b 13 = true := by rw [cz]; exact Bool.false_ne_true
  clear cz
  refine a_if_eq rfl (fun _ => ?_) (fun z => absurd rfl z)
  refine a_l0 rfl rfl rfl ?_
  refine a_ldcs (q := 130 + 14) rfl (hw.ld (i := 14) (by decide)) ?_
  refine a_eV1 rfl lX12_109 mo_X12_isWord (h_isWord (k := 14) hw (by decide) h12 hbp hq) rfl rfl rfl ⟨12, _, rfl, rfl, rfl⟩ rfl ?_
  obtain ⟨z, cz⟩ : ∃ z, isWd T e b 14 = z := ⟨_, rfl⟩
  refine a_top (y := bI z) (congrArg bI ((hi 14 (by decide)).trans cz)) ?_
  cases z with
  | true =>
    refine a_if_eq rfl (fun z => absurd z (by decide)) (fun _ => ?_)
    rw [show linP T e b W = setP T e (nx T e b) W 5 0 999 from (if_neg n0).trans ((if_neg n3).trans ((if_neg n9).trans ((if_neg n10).trans ((if_neg n11).trans ((if_neg n12).trans ((if_neg n13).trans (if_pos cz)))))))]
    refine a_l0 rfl rfl rfl ?_
    refine a_s rfl rfl ?_
    refine a_s rfl rfl ?_
    refine a_s rfl rfl ?_
    refine a_gV rfl lX12_157 mo_X12_readNumber (h_readNumber (i := 5) (b := nx T e b) hT hq (hn cz) h421 (by decide) (by decide) (by decide)) rfl rfl rfl ⟨12, _, rfl, rfl, rfl⟩ rfl (fun v' h' hv => ?_)
    obtain ⟨rfl, J, p', rfl, y, n⟩ := hv
    generalize setP T e (nx T e b) W 5 0 999 = r at y n ⊢
    obtain ⟨z, b', W'⟩ := r
    cases z with
    | false =>
      refine a_if_eq rfl (fun _ => ?_) (fun z => absurd rfl z)
      refine a_s rfl rfl ?_
      exact a_zret rfl rfl rfl ⟨rfl, J, p', rfl, y, n⟩
    | true =>
      refine a_if_eq rfl (fun z => absurd (show (1 : Int32) = 0 from z) (by decide)) (fun _ => ?_)
      refine a_s rfl rfl ?_
      refine a_goto rfl ?_
      exact a_zret rfl rfl rfl ⟨rfl, J, p', rfl, y, n⟩
  | false =>
  have n14 : ¬ isWd T e b 14 = true := by rw [cz]; exact Bool.false_ne_true
  clear cz
  refine a_if_eq rfl (fun _ => ?_) (fun z => absurd rfl z)
  refine a_s rfl rfl ?_
  rw [show linP T e b W = (false, b, W) from (if_neg n0).trans ((if_neg n3).trans ((if_neg n9).trans ((if_neg n10).trans ((if_neg n11).trans ((if_neg n12).trans ((if_neg n13).trans (if_neg n14)))))))]
  exact a_zret rfl rfl rfl (QH.no Fm.rf h12)
theorem h_readLineS (hw : WdS S) (hT : I 426 = T) (hq : Pp e p I) (hb : rn T e 4 p = b) (h421 : I 421 = W) (hW : WOk W) {i : Nat} (hi : i ≤ 14) : Sp S m_X12_readLine 60 0 0 [.ref 420, .int (bI true), .int (nI i)] (hp I L w1 w2 t) (QH T e (if i < 14 then linP T e b W else (false, b, W)) I L w1 w2 t) nX := by
  refine Sp_of ok_X12_readLine rfl rfl ?_
  show AW S m_X12_readLine 60 _ _ 0 0 0 [some (.ref 420), some (.int (bI true)), some (.int (nI i))] [] (hp I L w1 w2 t)
  refine a_l0 rfl rfl rfl ?_
  refine a_gV rfl lX12_106 mo_X12_letters (h_letters hq) rfl rfl rfl ⟨12, _, rfl, rfl, rfl⟩ rfl (fun v' h' hv => ?_)
  obtain ⟨rfl, J, rfl, h1⟩ := hv
  rw [hT, hb] at h1
  have f1 : Fm sS I J := Fm.mo (Rd.fm h1) sR_sS
  refine a_l2 rfl rfl rfl ?_
  refine a_l1 rfl rfl rfl ?_
  refine a_if_eq rfl (fun c => absurd c (by decide)) (fun _ => ?_)
  refine a_s rfl rfl ?_
  refine a_goto rfl ?_
  refine a_ic_ge rfl (fun c => ?_) (fun c => ?_)
  · have n14 := nI_ge_of (b := 14) c (by omega) (by decide)
    rw [if_neg (Nat.not_lt.mpr n14)]
    refine a_s rfl rfl ?_
    exact a_zret rfl rfl rfl (QH.no f1 (Rd.be h1))
  have i14 := nI_lt_of (b := 14) c (by omega) (by decide)
  rw [if_pos i14]
  refine a_l1 rfl rfl rfl ?_
  refine a_if_eq rfl (fun c => absurd c (by decide)) (fun _ => ?_)
  refine a_l0 rfl rfl rfl ?_
  refine a_gV rfl lX12_226 mo_X12_readStreetLine (h_readStreetLine hw ((Rd.T h1).trans hT) (Rd.be h1) (Rd.bp h1) (Rd.pp h1) rfl ((Rd.w h1).trans h421) hW) rfl rfl rfl ⟨12, _, rfl, rfl, rfl⟩ rfl (fun v' h' hv => ?_)
  replace hv := QH.be f1 hv
  obtain ⟨rfl, J2, p2, rfl, y, n⟩ := hv
  generalize linP T e b W = r at y n ⊢
  obtain ⟨z, b', W'⟩ := r
  cases z with
  | false =>
    refine a_if_eq rfl (fun _ => ?_) (fun z => absurd rfl z)
    refine a_s rfl rfl ?_
    exact a_zret rfl rfl rfl ⟨rfl, J2, p2, rfl, y, n⟩
  | true =>
    refine a_if_eq rfl (fun z => absurd (show (1 : Int32) = 0 from z) (by decide)) (fun _ => ?_)
    refine a_goto rfl ?_
    refine a_s rfl rfl ?_
    refine a_goto rfl ?_
    exact a_zret rfl rfl rfl ⟨rfl, J2, p2, rfl, y, n⟩
end T79o
end
