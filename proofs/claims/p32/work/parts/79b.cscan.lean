/-! ===== the class's tokens: all at once, and one behind another ===== -/
section T79b
variable {S : aS} {I : Nat → Nat → Int32} {L : Nat → Nat → Int64} {w1 w2 t : Nat} {e n j b : Nat}
set_option maxRecDepth 100000
/-- all but the law's tokens is as it was -/
def Ft (I J : Nat → Nat → Int32) : Prop := ∀ q, ¬ (221 ≤ q ∧ q ≤ 225) → J q = I q
theorem Ft.rf : Ft I I := fun _ _ => rfl
theorem Ft.tr {J K : Nat → Nat → Int32} (h : Ft I J) (h2 : Ft J K) : Ft I K := fun q hq => (h2 q hq).trans (h q hq)
theorem Ft.up {J : Nat → Nat → Int32} {p k : Nat} {v : Int32} (h : Ft I J) (hp : 221 ≤ p ∧ p ≤ 225) : Ft I (up2 J p k v) := fun q hq => by
  rw [up2_row (by intro z; subst z; exact hq hp)]
  exact h q hq
/-- the things up to n, the last of them the end -/
def TkA (T : Nat → Int32) (e n : Nat) (I : Nat → Nat → Int32) : Prop := n ≤ 400 ∧ ¬ bg T e n < e ∧ I 221 4 = nI (n + 1) ∧ ∀ j, j ≤ n → I 222 j = nI (kd T e (bg T e j)) ∧ I 223 j = nI (bg T e j) ∧ I 225 j = vl T e (bg T e j)
def wrF (T : Nat → Int32) (e b : Nat) : Nat := if kd T e b = 1 ∧ wd T e b < 27 then 100 + wd T e b + 1 else 0
/-- what is at hand begins at b -/
def At (T : Nat → Int32) (e b w : Nat) (I : Nat → Nat → Int32) : Prop := (∃ n j, TkA T e n I ∧ j ≤ n ∧ I 221 5 = nI j ∧ b = bg T e j) ∧ I 221 6 = nI (kd T e b) ∧ I 221 7 = nI b ∧ I 221 8 = vl T e b ∧ w = wrF T e b
theorem At.ki {T : Nat → Int32} {w : Nat} (h : At T e b w I) : I 221 6 = nI (kd T e b) := h.2.1
theorem At.be {T : Nat → Int32} {w : Nat} (h : At T e b w I) : I 221 7 = nI b := h.2.2.1
theorem At.va {T : Nat → Int32} {w : Nat} (h : At T e b w I) : I 221 8 = vl T e b := h.2.2.2.1
theorem At.wo {T : Nat → Int32} {w : Nat} (h : At T e b w I) : w = wrF T e b := h.2.2.2.2
theorem At.le {T : Nat → Int32} {w : Nat} (h : At T e b w I) : b ≤ e := by
  obtain ⟨⟨n, j, -, -, -, rfl⟩, -⟩ := h
  exact bg_le j
theorem At.sk {T : Nat → Int32} {w : Nat} (h : At T e b w I) : rn T e 4 b = b := by
  obtain ⟨⟨n, j, -, -, -, rfl⟩, -⟩ := h
  exact bg_sk j
theorem At.eq {T : Nat → Int32} {w : Nat} {J : Nat → Nat → Int32} (h : At T e b w I) (f : ∀ q, 221 ≤ q → q ≤ 225 → J q = I q) : At T e b w J := by
  obtain ⟨⟨n, j, ⟨a1, a2, a3, a4⟩, h2, h3, h4⟩, h5, h6, h7, h8⟩ := h
  have e1 := f 221 (by decide) (by decide)
  refine ⟨⟨n, j, ⟨a1, a2, by rw [e1]; exact a3, fun i hi => ?_⟩, h2, by rw [e1]; exact h3, h4⟩, by rw [e1]; exact h5, by rw [e1]; exact h6, by rw [e1]; exact h7, h8⟩
  rw [f 222 (by decide) (by decide), f 223 (by decide) (by decide), f 225 (by decide) (by decide)]
  exact a4 i hi
theorem kd_4 {T : Nat → Int32} {k : Nat} (h : kd T e b = k) : k < 5 := by
  rw [← h]
  by_cases c : b < e
  · rw [kd_lt c]
    rcases kc_cases (T b) with z | z | z | z <;> omega
  · rw [kd_ge c]
    omega
theorem min_nI {a c : Nat} (ha : a < 2 ^ 31) (hc : c < 2 ^ 31) : (if nI c < nI a then nI c else nI a) = nI (if a ≤ c then a else c) := by
  by_cases h : a ≤ c
  · rw [if_pos h, if_neg (Int32.not_lt.mpr (nI_leu h hc))]
  · rw [if_neg h, if_pos (nI_ltu (by omega) ha)]
theorem vl_w {T : Nat → Int32} (h : kd T e b = 1) : (vl T e b < 0 ∧ ¬ wd T e b < 27) ∨ (¬ vl T e b < 0 ∧ wd T e b < 27 ∧ vl T e b = nI (wd T e b)) := by
  rw [vl_1 h]
  by_cases c : wd T e b < 27
  · rw [if_pos c]
    exact Or.inr ⟨nI_pos (by omega), c, rfl⟩
  · rw [if_neg c]
    exact Or.inl ⟨by decide, c⟩
/-- to the thing behind, or it stays at the end -/
theorem f_next {T : Nat → Int32} (hw : WdS S) {n i j : Nat} (hT : TkA T e n I) (h5 : I 221 5 + 1 = nI i) (hij : j = if i ≤ n then i else n) (hi : i ≤ 401) : Sp S m_X9_next 13 0 0 [.ref 221] (hp I L w1 w2 t) (fun v h' => v = none ∧ ∃ J w, h' = hp J L w1 w t ∧ At T e (bg T e j) w J ∧ ∀ q, q ≠ 221 → J q = I q) nX := by
  obtain ⟨a1, a2, a3, a4⟩ := id hT
  have hjn : j ≤ n := by
    rw [hij]
    by_cases c : i ≤ n
    · rw [if_pos c]
      exact c
    · rw [if_neg c]
      exact Nat.le_refl n
  obtain ⟨b1, b2, b3⟩ := a4 j hjn
  refine Sp_of ok_X9_next rfl rfl ?_
  show AW S m_X9_next 13 _ _ 0 0 0 [some (.ref 221)] [] (hp I L w1 w2 t)
  refine a_l0 rfl rfl rfl ?_
  refine a_l0 rfl rfl rfl ?_
  refine a_geti rfl gfX9_52_9 rfl ?_
  refine a_s rfl rfl ?_
  refine a_s rfl rfl ?_
  refine a_top (y := nI i) (h5) ?_
  refine a_l0 rfl rfl rfl ?_
  refine a_getiv (v := nI (n + 1)) rfl gfX9_24_9 rfl (a3) ?_
  refine a_s rfl rfl ?_
  refine a_s rfl rfl ?_
  refine a_top (y := nI n) (nI_dec n) ?_
  refine a_min rfl lX9_91 mj_min rfl rfl ?_
  refine a_top (y := nI j) ((min_nI (by omega) (by omega)).trans (congrArg nI hij.symm)) ?_
  refine a_puti rfl pfX9_52_9 rfl ?_
  refine a_l0 rfl rfl rfl ?_
  refine a_l0 rfl rfl rfl ?_
  refine a_getq rfl gfX9_9_9 rfl (rfl) ?_
  refine a_l0 rfl rfl rfl ?_
  refine a_getiv (v := nI j) rfl gfX9_52_9 rfl (up2_at) ?_
  refine a_eSN1 rfl lX9_58 mo_X11_at (sp_X11_at rfl) rfl rfl rfl rfl ?_
  refine a_top (y := nI (kd T e (bg T e j))) ((atF_nI (by omega) (by decide)).trans ((congrFun (up2_row (by decide)) j).trans b1)) ?_
  refine a_puti rfl pfX9_97_9 rfl ?_
  refine a_l0 rfl rfl rfl ?_
  refine a_l0 rfl rfl rfl ?_
  refine a_getq rfl gfX9_15_9 rfl (rfl) ?_
  refine a_l0 rfl rfl rfl ?_
  refine a_getiv (v := nI j) rfl gfX9_52_9 rfl ((up2_ne (Or.inr (by decide))).trans up2_at) ?_
  refine a_eSN1 rfl lX9_58 mo_X11_at (sp_X11_at rfl) rfl rfl rfl rfl ?_
  refine a_top (y := nI (bg T e j)) ((atF_nI (by omega) (by decide)).trans ((congrFun (up2_row (by decide)) j).trans ((congrFun (up2_row (by decide)) j).trans b2))) ?_
  refine a_puti rfl pfX9_100_9 rfl ?_
  refine a_l0 rfl rfl rfl ?_
  refine a_l0 rfl rfl rfl ?_
  refine a_getq rfl gfX9_21_9 rfl (rfl) ?_
  refine a_l0 rfl rfl rfl ?_
  refine a_getiv (v := nI j) rfl gfX9_52_9 rfl ((up2_ne (Or.inr (by decide))).trans ((up2_ne (Or.inr (by decide))).trans up2_at)) ?_
  refine a_eSN1 rfl lX9_58 mo_X11_at (sp_X11_at rfl) rfl rfl rfl rfl ?_
  refine a_top (y := vl T e (bg T e j)) ((atF_nI (by omega) (by decide)).trans ((congrFun (up2_row (by decide)) j).trans ((congrFun (up2_row (by decide)) j).trans ((congrFun (up2_row (by decide)) j).trans b3)))) ?_
  refine a_puti rfl pfX9_103_9 rfl ?_
  refine a_ren (P := fun J => (∀ q, q ≠ 221 → J q = I q) ∧ J 221 4 = nI (n + 1) ∧ J 221 5 = nI j ∧ J 221 6 = nI (kd T e (bg T e j)) ∧ J 221 7 = nI (bg T e j) ∧ J 221 8 = vl T e (bg T e j)) ⟨fun q hq => ?_, ?_, ?_, ?_, ?_, up2_at⟩ (fun J hJ => ?_)
  · rw [up2_row hq, up2_row hq, up2_row hq, up2_row hq]
  · exact (up2_ne (Or.inr (by decide))).trans ((up2_ne (Or.inr (by decide))).trans ((up2_ne (Or.inr (by decide))).trans ((up2_ne (Or.inr (by decide))).trans a3)))
  · exact (up2_ne (Or.inr (by decide))).trans ((up2_ne (Or.inr (by decide))).trans ((up2_ne (Or.inr (by decide))).trans up2_at))
  · exact (up2_ne (Or.inr (by decide))).trans ((up2_ne (Or.inr (by decide))).trans up2_at)
  · exact (up2_ne (Or.inr (by decide))).trans up2_at
  obtain ⟨f, g4, g5, g6, g7, g8⟩ := hJ
  have hTJ : TkA T e n J := ⟨a1, a2, g4, fun i hi => by
    rw [f 222 (by decide), f 223 (by decide), f 225 (by decide)]
    exact a4 i hi⟩
  have fin : ∀ q, q = wrF T e (bg T e j) → AW S m_X9_next 13 (fun v h' => v = none ∧ ∃ J w, h' = hp J L w1 w t ∧ At T e (bg T e j) w J ∧ ∀ q, q ≠ 221 → J q = I q) nX 0 0 103 [some (.ref 221)] [rv q, .ref 221] (hp J L w1 w2 t) := by
    intro q hq
    refine a_putw2 (q := q) rfl pfX9_106_9 ?_
    exact a_vret rfl rfl ⟨rfl, J, q, rfl, ⟨⟨n, j, hTJ, hjn, g5, rfl⟩, g6, g7, g8, hq⟩, f⟩
  refine a_l0 rfl rfl rfl ?_
  refine a_l0 rfl rfl rfl ?_
  refine a_getiv (v := nI (kd T e (bg T e j))) rfl gfX9_97_9 rfl (g6) ?_
  refine a_s rfl rfl ?_
  refine a_ic_ne rfl (fun c => ?_) (fun c => ?_)
  · refine a_s rfl rfl ?_
    exact fin 0 (if_neg (fun z => c (congrArg nI z.1))).symm
  have hk : kd T e (bg T e j) = 1 := nI_inj (a := kd T e (bg T e j)) (b := 1) (by have := kd_4 (T := T) (e := e) (b := bg T e j) rfl; omega) (by decide) c
  refine a_l0 rfl rfl rfl ?_
  refine a_getiv (v := vl T e (bg T e j)) rfl gfX9_103_9 rfl (g8) ?_
  rcases vl_w hk with ⟨v1, v2⟩ | ⟨v1, v2, v3⟩
  · refine a_if_lt rfl (fun _ => ?_) (fun c => absurd v1 c)
    refine a_s rfl rfl ?_
    exact fin 0 (if_neg (fun z => v2 z.2)).symm
  · refine a_if_lt rfl (fun c => absurd c v1) (fun _ => ?_)
    refine a_l0 rfl rfl rfl ?_
    refine a_getiv (v := nI (wd T e (bg T e j))) rfl gfX9_103_9 rfl (g8.trans v3) ?_
    refine a_gets rfl (inC4 (i := 0) rfl rfl) hw.al ?_
    refine a_lenc rfl hw.ar rfl ?_
    refine a_ic_ge rfl (fun c => absurd c (nI_ge (b := 27) v2 (by decide))) (fun _ => ?_)
    refine a_gets rfl (inC4 (i := 0) rfl rfl) hw.al ?_
    refine a_l0 rfl rfl rfl ?_
    refine a_getiv (v := nI (wd T e (bg T e j))) rfl gfX9_103_9 rfl (g8.trans v3) ?_
    refine a_aaldc rfl hw.ar rfl (inI_nI v2 (by decide)) ?_
    refine a_pop1 (st := [rv (100 + wd T e (bg T e j) + 1), .ref 221]) (by rw [nI_clamp (by omega)]; rfl) ?_
    refine a_goto rfl ?_
    exact fin _ (if_pos ⟨hk, v2⟩).symm
/-- so far: n things begun by i, the last of kind la (4, 3: none goes on) -/
def SI (T : Nat → Int32) (e n i la : Nat) (I : Nat → Nat → Int32) : Prop := n ≤ i ∧ i ≤ e ∧ I 221 4 = nI n ∧ (∀ j, j < n → bg T e j < e ∧ I 222 j = nI (kd T e (bg T e j)) ∧ I 223 j = nI (bg T e j)) ∧
  (((la = 4 ∨ la = 3) ∧ (∀ j, j < n → I 224 j = nI (en T e (bg T e j))) ∧ bg T e n = rn T e 4 i) ∨
   ∃ m, n = m + 1 ∧ (la = 1 ∨ la = 2) ∧ kd T e (bg T e m) = la ∧ (∀ j, j < m → I 224 j = nI (en T e (bg T e j))) ∧ I 224 m = nI i ∧ en T e (bg T e m) = rn T e la i)
/-- none goes on over a sign of another kind -/
theorem SI.cl {T : Nat → Int32} {i la : Nat} (h : SI T e n i la I) (hne : (la = 4 ∨ la = 3) ∨ ¬ isK T e la i = true) : (∀ j, j < n → I 224 j = nI (en T e (bg T e j))) ∧ bg T e n = rn T e 4 i := by
  obtain ⟨-, -, -, -, ⟨-, h2, h3⟩ | ⟨m, rfl, h2, h3, h4, h5, h6⟩⟩ := h
  · exact ⟨h2, h3⟩
  · have hne : ¬ isK T e la i = true := hne.resolve_left (by omega)
    have e1 : en T e (bg T e m) = i := h6.trans (rn_f (Bool.eq_false_iff.mpr hne))
    refine ⟨fun j hj => ?_, ?_⟩
    · by_cases c : j = m
      · rw [c, e1]
        exact h5
      · exact h4 j (by omega)
    · show rn T e 4 (en T e (bg T e m)) = _
      rw [e1]
theorem f_scan (hw : WdS S) (he : I 201 1 = nI e) (h4 : e ≤ 400) (hbt : BtT (I 202)) : Sp S m_X9_scan 19 0 0 [.ref 221, .ref 201] (hp I L w1 w2 t) (fun v h' => v = none ∧ ∃ J w, h' = hp J L w1 w t ∧ At (I 202) e (bg (I 202) e 0) w J ∧ Ft I J) nX := by
  refine Sp_of ok_X9_scan rfl rfl ?_
  show AW S m_X9_scan 19 _ _ 0 0 0 [some (.ref 221), some (.ref 201), none, none, none] [] (hp I L w1 w2 t)
  -- behind both loops
  have part2 : ∀ (n : Nat) (J : Nat → Nat → Int32), Ft I J → n ≤ e → J 221 4 = nI (n + 1) → ¬ bg (I 202) e n < e → (∀ j, j ≤ n → TkJ J e j (bg (I 202) e j)) → AW S m_X9_scan 19 (fun v h' => v = none ∧ ∃ J w, h' = hp J L w1 w t ∧ At (I 202) e (bg (I 202) e 0) w J ∧ Ft I J) nX 0 0 92 [some (.ref 221), some (.ref 201), none, none, none] [] (hp J L w1 w2 t) := by
    intro n J hF hne hs hend hall
    have hT2 : J 202 = I 202 := hF 202 (by omega)
    have he2 : J 201 1 = nI e := (congrFun (hF 201 (by omega)) 1).trans he
    refine a_s rfl rfl ?_
    refine a_s3 rfl rfl rfl rfl rfl rfl ?_
    refine a_inv (n := n + 1) (fun m ls h => ∃ q K, ls = [some (.ref 221), some (.ref 201), none, some (.int (nI q)), none] ∧ h = hp K L w1 w2 t ∧ q ≤ n + 1 ∧ m = n + 1 - q ∧ (∀ p, p ≠ 225 → K p = J p) ∧ ∀ j, j < q → K 225 j = vl (I 202) e (bg (I 202) e j)) ⟨0, J, rfl, rfl, Nat.zero_le _, rfl, fun _ _ => rfl, fun j hj => absurd hj (Nat.not_lt_zero _)⟩ ?_
    rintro m _ _ ⟨q, K, rfl, rfl, hq, hm, hK, hv5⟩ ih
    refine a_l3 rfl rfl rfl ?_
    refine a_l0 rfl rfl rfl ?_
    refine a_getiv (v := nI (n + 1)) rfl gfX9_24_9 rfl ((congrFun (hK 221 (by decide)) 4).trans hs) ?_
    refine a_ic_ge rfl (fun c => ?_) (fun c => ?_)
    · have hge := nI_ge_of c (by omega) (by omega)
      obtain rfl : q = n + 1 := by omega
      refine a_l0 rfl rfl rfl ?_
      refine a_s rfl rfl ?_
      refine a_puti rfl pfX9_52_9 rfl ?_
      refine a_l0 rfl rfl rfl ?_
      have hTA : TkA (I 202) e n (up2 K 221 5 (-1)) := by
        refine ⟨by omega, hend, (up2_ne (Or.inr (by decide))).trans ((congrFun (hK 221 (by decide)) 4).trans hs), fun j hj => ?_⟩
        obtain ⟨z1, z2, z3⟩ := hall j hj
        rw [hT2] at z1
        rw [up2_row (by decide), up2_row (by decide), up2_row (by decide), hK 222 (by decide), hK 223 (by decide)]
        exact ⟨z1, z2, hv5 j (by omega)⟩
      refine a_gV rfl lX9_55 mo_X9_next (f_next (i := 0) (j := 0) hw hTA (by rw [up2_at]; rfl) rfl (by omega)) rfl rfl rfl ⟨9, _, rfl, rfl, rfl⟩ rfl (fun v' h' hv => ?_)
      obtain ⟨rfl, J2, w, rfl, hA, hf⟩ := hv
      refine a_vret rfl rfl ⟨rfl, J2, w, rfl, hA, fun p hp => ?_⟩
      have p1 : p ≠ 221 := by omega
      have p2 : p ≠ 225 := by omega
      rw [hf p p1, up2_row p1, hK p p2]
      exact hF p hp
    · have hqn : q < n + 1 := nI_lt_of c (by omega) (by omega)
      refine a_l0 rfl rfl rfl ?_
      refine a_getq rfl gfX9_21_9 rfl (rfl) ?_
      refine a_l3 rfl rfl rfl ?_
      refine a_l0 rfl rfl rfl ?_
      refine a_l1 rfl rfl rfl ?_
      refine a_l3 rfl rfl rfl ?_
      have hKT : K 202 = I 202 := (hK 202 (by decide)).trans hT2
      have hTq : TkJ K e q (bg (I 202) e q) := by
        have := hall q (by omega)
        unfold TkJ at this ⊢
        rw [hK 222 (by decide), hK 223 (by decide), hK 224 (by decide), hK 202 (by decide)]
        exact this
      refine a_eV1 rfl lX9_48 mo_X9_valueOf (f_valueOf (b := bg (I 202) e q) hw ((congrFun (hK 201 (by decide)) 1).trans he2) h4 (by rw [hKT]; exact hbt) (by omega) (bg_le q) (by rw [hKT]; exact sk_kd (bg_sk q)) hTq) rfl rfl rfl ⟨9, _, rfl, rfl, rfl⟩ rfl ?_
      refine a_top (y := vl (I 202) e (bg (I 202) e q)) (by rw [hKT]) ?_
      refine a_eSN0 rfl lX9_44 mo_X11_setAt (sp_X11_setAt rfl) rfl rfl rfl rfl ?_
      rw [setF_nI (by omega) (by decide)]
      refine a_iv3 (y := nI (q + 1)) rfl rfl rfl ((nI_succ q).symm) ?_
      refine a_goto rfl ?_
      refine ih (n + 1 - (q + 1)) _ _ (by omega) ⟨q + 1, up2 K 225 q (vl (I 202) e (bg (I 202) e q)), rfl, rfl, by omega, rfl, fun p hp => (up2_row hp).trans (hK p hp), fun j hj => ?_⟩
      by_cases cj : j = q
      · rw [cj]
        exact up2_at
      · exact (up2_ne (Or.inr cj)).trans (hv5 j (by omega))
  refine a_l0 rfl rfl rfl ?_
  refine a_s rfl rfl ?_
  refine a_puti rfl pfX9_24_9 rfl ?_
  refine a_s rfl rfl ?_
  refine a_s2 rfl rfl rfl rfl rfl rfl ?_
  refine a_s rfl rfl ?_
  refine a_s3 rfl rfl rfl rfl rfl rfl ?_
  refine a_inv (n := e) (fun m ls h => ∃ n i la J, ls = [some (.ref 221), some (.ref 201), some (.int (nI la)), some (.int (nI i)), none] ∧ h = hp J L w1 w2 t ∧ m = e - i ∧ Ft I J ∧ SI (I 202) e n i la J) ⟨0, 0, 4, _, rfl, rfl, rfl, Ft.up Ft.rf (by omega), Nat.le_refl _, Nat.zero_le _, up2_at, fun j hj => absurd hj (Nat.not_lt_zero _), Or.inl ⟨Or.inl rfl, fun j hj => absurd hj (Nat.not_lt_zero _), rfl⟩⟩ ?_
  rintro m _ _ ⟨n, i, la, J, rfl, rfl, hm, hF, hSI⟩ ih
  have hT2 : J 202 = I 202 := hF 202 (by omega)
  have he2 : J 201 1 = nI e := (congrFun (hF 201 (by omega)) 1).trans he
  obtain ⟨s1, s2, s3, s4, s5⟩ := id hSI
  have hla : la < 5 := by
    rcases s5 with ⟨z | z, -⟩ | ⟨_, -, z | z, -⟩ <;> omega
  refine a_l3 rfl rfl rfl ?_
  refine a_l1 rfl rfl rfl ?_
  refine a_getiv (v := nI e) rfl gfX9_28_7 rfl (he2) ?_
  refine a_ic_ge rfl (fun c => ?_) (fun c => ?_)
  · have hge := nI_ge_of c (by omega) (by omega)
    obtain rfl : i = e := by omega
    obtain ⟨k1, k2⟩ := SI.cl hSI (Or.inr fun z => absurd (isK_lt z) (Nat.lt_irrefl _))
    rw [rn_e (Nat.lt_irrefl _)] at k2
    refine a_l0 rfl rfl rfl ?_
    refine a_s rfl rfl ?_
    refine a_l1 rfl rfl rfl ?_
    refine a_getiv (v := nI i) rfl gfX9_28_7 rfl (he2) ?_
    refine a_eV0 rfl lX9_40 mo_X9_open (f_open s3 (by omega)) rfl rfl rfl ⟨9, _, rfl, rfl, rfl⟩ rfl ?_
    refine a_less (part2 n (opH J n 0 (nI i)) (Ft.up (Ft.up (Ft.up (Ft.up hF (by omega)) (by omega)) (by omega)) (by omega)) (by omega) up2_at (by rw [k2]; exact Nat.lt_irrefl _) (fun j hj => ?_)) ⟨rfl, rfl, trivial⟩
    have r2 : ∀ q, opH J n 0 (nI i) 222 q = up2 J 222 n 0 222 q := fun q => by
      unfold opH
      rw [up2_row (by decide), up2_row (by decide), up2_row (by decide)]
    have r3 : ∀ q, opH J n 0 (nI i) 223 q = up2 J 223 n (nI i) 223 q := fun q => by
      unfold opH
      rw [up2_row (by decide), up2_row (by decide)]
      by_cases cq : q = n
      · rw [cq, up2_at, up2_at]
      · rw [up2_ne (Or.inr cq), up2_ne (Or.inr cq), up2_ne (Or.inr cq)]
    have r4 : ∀ q, opH J n 0 (nI i) 224 q = up2 J 224 n (nI i) 224 q := fun q => by
      unfold opH
      rw [up2_row (by decide)]
      by_cases cq : q = n
      · rw [cq, up2_at, up2_at]
      · rw [up2_ne (Or.inr cq), up2_ne (Or.inr cq), up2_ne (Or.inr cq), up2_ne (Or.inr cq)]
    have r0 : opH J n 0 (nI i) 202 = I 202 := by
      unfold opH
      rw [up2_row (by decide), up2_row (by decide), up2_row (by decide), up2_row (by decide)]
      exact hT2
    unfold TkJ
    rw [r0, r2, r3, r4]
    by_cases cj : j = n
    · rw [cj, up2_at, up2_at, up2_at, k2, kd_ge (Nat.lt_irrefl _), en_0 (Nat.lt_irrefl _)]
      exact ⟨nI_0.symm, rfl, rfl⟩
    · obtain ⟨z1, z2, z3⟩ := s4 j (by omega)
      rw [up2_ne (Or.inr cj), up2_ne (Or.inr cj), up2_ne (Or.inr cj)]
      exact ⟨z2, z3, k1 j (by omega)⟩
  have hie : i < e := nI_lt_of c (by omega) (by omega)
  refine a_l1 rfl rfl rfl ?_
  refine a_l3 rfl rfl rfl ?_
  refine a_eV1 rfl lX9_33 mo_X7_byteAt (f_byteAt he2 h4 (by omega)) rfl rfl rfl ⟨7, _, rfl, rfl, rfl⟩ rfl ?_
  refine a_top (y := I 202 i &&& 255) ((if_pos hie).trans (by rw [hT2])) ?_
  refine a_eS1 rfl lX9_37 mo_X9_kindOf f_kindOf rfl rfl rfl rfl ?_
  obtain ⟨x, hx, ex⟩ := hbt i (by omega)
  refine a_top (y := nI (kcF (I 202 i))) (by rw [ex, bt_kc x hx]) ?_
  refine a_s4 rfl rfl rfl rfl rfl rfl ?_
  have hkc := kc_cases (I 202 i)
  generalize hk0 : kcF (I 202 i) = kc at hkc
  have isK_of : ∀ k, isK (I 202) e k i = true ↔ kc = k := fun k => ⟨fun z => hk0.symm.trans (isK_kc z), fun z => isK_t hie (hk0.trans z)⟩
  -- the loop goes on
  have on : ∀ (n' : Nat) (K : Nat → Nat → Int32), Ft I K → SI (I 202) e n' (i + 1) kc K → AW S m_X9_scan 19 (fun v h' => v = none ∧ ∃ J w, h' = hp J L w1 w t ∧ At (I 202) e (bg (I 202) e 0) w J ∧ Ft I J) nX 0 0 74 [some (.ref 221), some (.ref 201), some (.int (nI la)), some (.int (nI i)), some (.int (nI kc))] [] (hp K L w1 w2 t) := by
    intro n' K hFK hSK
    refine a_l4 rfl rfl rfl ?_
    refine a_s2 rfl rfl rfl rfl rfl rfl ?_
    refine a_iv3 (y := nI (i + 1)) rfl rfl rfl ((nI_succ i).symm) ?_
    refine a_goto rfl ?_
    have lt : e - (i + 1) < m := by rw [hm]; exact Nat.sub_lt_sub_left hie (Nat.lt_succ_self i)
    exact a_less (ih (e - (i + 1)) [some (.ref 221), some (.ref 201), some (.int (nI kc)), some (.int (nI (i + 1))), none] (hp K L w1 w2 t) lt ⟨n', i + 1, kc, K, rfl, rfl, rfl, hFK, hSK⟩) ⟨rfl, rfl, rfl, rfl, trivial⟩
  -- where the latest ends
  have k52 : ∀ (m : Nat) (K : Nat → Nat → Int32), kc ≠ 4 → m < 401 → K 221 4 = nI (m + 1) → Ft I K → SI (I 202) e (m + 1) (i + 1) kc (up2 K 224 m (nI (i + 1))) → AW S m_X9_scan 19 (fun v h' => v = none ∧ ∃ J w, h' = hp J L w1 w t ∧ At (I 202) e (bg (I 202) e 0) w J ∧ Ft I J) nX 0 0 52 [some (.ref 221), some (.ref 201), some (.int (nI la)), some (.int (nI i)), some (.int (nI kc))] [] (hp K L w1 w2 t) := by
    intro m K h4 hm4 hK4 hFK hSK
    refine a_l4 rfl rfl rfl ?_
    refine a_s rfl rfl ?_
    refine a_ic_eq rfl (fun c => absurd (nI_inj (b := 4) (by omega) (by decide) c) h4) (fun _ => ?_)
    refine a_l0 rfl rfl rfl ?_
    refine a_getq rfl gfX9_18_9 rfl (rfl) ?_
    refine a_l0 rfl rfl rfl ?_
    refine a_getiv (v := nI (m + 1)) rfl gfX9_24_9 rfl (hK4) ?_
    refine a_s rfl rfl ?_
    refine a_s rfl rfl ?_
    refine a_top (y := nI m) (nI_dec m) ?_
    refine a_l3 rfl rfl rfl ?_
    refine a_s rfl rfl ?_
    refine a_s rfl rfl ?_
    refine a_top (y := nI (i + 1)) ((nI_succ i).symm) ?_
    refine a_eSN0 rfl lX9_44 mo_X11_setAt (sp_X11_setAt rfl) rfl rfl rfl rfl ?_
    rw [setF_nI hm4 (by decide)]
    exact on _ _ (Ft.up hFK (by omega)) hSK
  -- a new one begins here
  have k45 : kc ≠ 4 → ((la = 4 ∨ la = 3) ∨ kc ≠ la) → AW S m_X9_scan 19 (fun v h' => v = none ∧ ∃ J w, h' = hp J L w1 w t ∧ At (I 202) e (bg (I 202) e 0) w J ∧ Ft I J) nX 0 0 45 [some (.ref 221), some (.ref 201), some (.int (nI la)), some (.int (nI i)), some (.int (nI kc))] [] (hp J L w1 w2 t) := by
    intro n4 hne
    obtain ⟨k1, k2⟩ := SI.cl hSI (hne.imp id fun z y => z ((isK_of la).mp y))
    have kb : bg (I 202) e n = i := k2.trans (rn_f (Bool.eq_false_iff.mpr fun z => n4 ((isK_of 4).mp z)))
    have kk : kd (I 202) e i = kc := (kd_lt hie).trans hk0
    refine a_l0 rfl rfl rfl ?_
    refine a_l4 rfl rfl rfl ?_
    refine a_l3 rfl rfl rfl ?_
    refine a_eV0 rfl lX9_40 mo_X9_open (f_open s3 (by omega)) rfl rfl rfl ⟨9, _, rfl, rfl, rfl⟩ rfl ?_
    refine k52 n _ n4 (by omega) up2_at (Ft.up (Ft.up (Ft.up (Ft.up hF (by omega)) (by omega)) (by omega)) (by omega)) ?_
    have r2 : ∀ q, up2 (opH J n (nI kc) (nI i)) 224 n (nI (i + 1)) 222 q = up2 J 222 n (nI kc) 222 q := fun q => by
      unfold opH
      rw [up2_row (by decide), up2_row (by decide), up2_row (by decide), up2_row (by decide)]
    have r3 : ∀ q, up2 (opH J n (nI kc) (nI i)) 224 n (nI (i + 1)) 223 q = up2 J 223 n (nI i) 223 q := fun q => by
      unfold opH
      rw [up2_row (by decide), up2_row (by decide), up2_row (by decide)]
      by_cases cq : q = n
      · rw [cq, up2_at, up2_at]
      · rw [up2_ne (Or.inr cq), up2_ne (Or.inr cq), up2_ne (Or.inr cq)]
    have r4 : ∀ q, q ≠ n → up2 (opH J n (nI kc) (nI i)) 224 n (nI (i + 1)) 224 q = J 224 q := fun q hq => by
      rw [up2_ne (Or.inr hq)]
      unfold opH
      rw [up2_row (by decide), up2_ne (Or.inr hq), up2_row (by decide), up2_row (by decide)]
    have s4' : ∀ j, j < n + 1 → bg (I 202) e j < e ∧ up2 (opH J n (nI kc) (nI i)) 224 n (nI (i + 1)) 222 j = nI (kd (I 202) e (bg (I 202) e j)) ∧ up2 (opH J n (nI kc) (nI i)) 224 n (nI (i + 1)) 223 j = nI (bg (I 202) e j) := fun j hj => by
      rw [r2, r3]
      by_cases cj : j = n
      · rw [cj, kb, kk, up2_at, up2_at]
        exact ⟨hie, rfl, rfl⟩
      · rw [up2_ne (Or.inr cj), up2_ne (Or.inr cj)]
        exact s4 j (by omega)
    refine ⟨by omega, hie, (congrFun (up2_row (by decide)) 4).trans up2_at, s4', ?_⟩
    by_cases c3 : kc = 3
    · refine Or.inl ⟨Or.inr c3, fun j hj => ?_, ?_⟩
      · by_cases cj : j = n
        · rw [cj, up2_at, kb, en_3 (kk.trans c3)]
        · rw [r4 j cj]
          exact k1 j (by omega)
      · show rn (I 202) e 4 (en (I 202) e (bg (I 202) e n)) = _
        rw [kb, en_3 (kk.trans c3)]
    · refine Or.inr ⟨n, rfl, by omega, by rw [kb, kk], fun j hj => ?_, up2_at, ?_⟩
      · rw [r4 j (by omega)]
        exact k1 j hj
      · rw [kb]
        rcases hkc with z | z | z | z
        · rw [en_1 (kk.trans z), z, rn_t ((isK_of 1).mpr z)]
        · rw [en_2 (kk.trans z), z, rn_t ((isK_of 2).mpr z)]
        · exact absurd z c3
        · exact absurd z n4
  refine a_l4 rfl rfl rfl ?_
  refine a_s rfl rfl ?_
  refine a_ic_eq rfl (fun c => ?_) (fun c3 => ?_)
  · have c := nI_inj (b := 3) (by omega) (by decide) c
    exact k45 (by omega) (by omega)
  have c3 : kc ≠ 3 := fun z => c3 (congrArg nI z)
  refine a_l4 rfl rfl rfl ?_
  refine a_s rfl rfl ?_
  refine a_ic_eq rfl (fun c => ?_) (fun c4 => ?_)
  · have c := nI_inj (b := 4) (by omega) (by decide) c
    obtain ⟨k1, k2⟩ := SI.cl hSI (by
      rcases s5 with ⟨z, -⟩ | ⟨_, -, z, -⟩
      · exact Or.inl z
      · exact Or.inr fun y => by have := (isK_of la).mp y; omega)
    refine a_l4 rfl rfl rfl ?_
    refine a_s rfl rfl ?_
    refine a_ic_eq rfl (fun _ => ?_) (fun z => absurd (congrArg nI c) z)
    exact on n J hF ⟨by omega, hie, s3, s4, Or.inl ⟨Or.inl c, k1, k2.trans (rn_t ((isK_of 4).mpr c))⟩⟩
  have c4 : kc ≠ 4 := fun z => c4 (congrArg nI z)
  refine a_l4 rfl rfl rfl ?_
  refine a_l2 rfl rfl rfl ?_
  refine a_ic_eq rfl (fun c => ?_) (fun cl => ?_)
  · have c := nI_inj (by omega) (by omega) c
    rcases s5 with ⟨z, -⟩ | ⟨m, rfl, h2, h3, h4', h5, h6⟩
    · exfalso
      omega
    · refine k52 m J c4 (by omega) s3 hF ⟨by omega, hie, (congrFun (up2_row (by decide)) 4).trans s3, fun j hj => ?_, Or.inr ⟨m, rfl, by omega, h3.trans c.symm, fun j hj => ?_, up2_at, ?_⟩⟩
      · rw [up2_row (by decide), up2_row (by decide)]
        exact s4 j hj
      · rw [up2_ne (Or.inr (by omega))]
        exact h4' j hj
      · rw [h6, c, rn_t ((isK_of la).mpr c)]
  · exact k45 c4 (Or.inr fun z => cl (congrArg nI z))
end T79b
