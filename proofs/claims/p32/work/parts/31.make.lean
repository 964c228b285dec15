/-! ===== making: what each constructor lays (printed by program) ===== -/
section B5
variable {S : aS} {C C' : aM} {d d' : Nat} {Q Q' : Option Value → aH → Prop} {X X' : String → aH → Prop} {k1 k2 j1 j2 pc np tgt n : Nat} {w : Int32} {ls ls' : List (Option Value)} {st st' st0 : List Value} {h h' : aH} {ins : Instr} {As : List Value}
/-- it makes cells, and all is known -/
def SpM (S : aS) (C : aM) (d k1 k2 : Nat) (args : List Value) (h h' : aH) : Prop := Sp S C d k1 k2 args h (fun v h'' => v = none ∧ h'' = h') (fun _ _ => False)
theorem a_mI {idx q : Nat} (hC : look C pc = some (.invokespecial idx, np, tgt, w)) (hl : LK C.1.cls idx C') (hM : MOi C' n) (hs : SpM S C' d' j1 j2 (.ref q :: As) h h') (hn : As.length = n) (h0 : st0 = As.reverse ++ .ref q :: st) (ho : cOk d d' j1 j2 k1 k2 st = true) (hh : C.2.2.2.2.1 = []) (kk : AW S C d Q X (k1 - j1) (k2 - j2) np ls st h') : AW S C d Q X k1 k2 pc ls st0 h := by
  refine a_callI hC hl hM hs hn h0 ho hh (fun v h'' hv => ?_) (fun E h' hx => False.elim hx)
  obtain ⟨rfl, rfl⟩ := hv
  exact kk
theorem a_mIN {idx q : Nat} (hC : look C pc = some (.invokespecial idx, np, tgt, w)) (hl : LKn C.1.cls idx C') (hM : MOi C' n) (hs : SpM S C' d' j1 j2 (.ref q :: As) h h') (hn : As.length = n) (h0 : st0 = As.reverse ++ .ref q :: st) (ho : cOk d d' j1 j2 k1 k2 st = true) (hh : C.2.2.2.2.1 = []) (kk : AW S C d Q X (k1 - j1) (k2 - j2) np ls st h') : AW S C d Q X k1 k2 pc ls st0 h := by
  refine a_callIN hC hl hM hs hn h0 ho hh (fun v h'' hv => ?_) (fun E h' hx => False.elim hx)
  obtain ⟨rfl, rfl⟩ := hv
  exact kk
theorem SpM_of {args : List Value} (hO : okM C = true) (hc : args.all (fun v => v.category == 1) = true) (hn : Nat.ble args.length C.2.2.1 = true)
    (k : AW S C d (fun v h'' => v = none ∧ h'' = h') (fun _ _ => False) k1 k2 0 (entL args C.2.2.1) [] h) : SpM S C d k1 k2 args h h' := Sp_of hO hc hn k
end B5
/-- nothing of ours lies behind t -/
def Fr (I : Nat → Nat → Int32) (L : Nat → Nat → Int64) (R : Nat → Nat → Nat) (t : Nat) : Prop := ∀ p, t ≤ p → (∀ k, I p k = 0) ∧ (∀ k, L p k = 0) ∧ ∀ k, R p k = 0
theorem upK_ne {K : Nat → Nat × Nat} {p q : Nat} {v : Nat × Nat} (h : q ≠ p) : upK K p v q = K q := by simp [upK, h]
theorem upK_self {K : Nat → Nat × Nat} {p : Nat} {v : Nat × Nat} : upK K p v p = v := by simp [upK]
section B6
variable {I : Nat → Nat → Int32} {L : Nat → Nat → Int64} {R : Nat → Nat → Nat} {t t' q k : Nat}
theorem Fr.mono (h : Fr I L R t) (h1 : t ≤ t') : Fr I L R t' := fun p hp => h p (Nat.le_trans h1 hp)
theorem Fr.putI {v : Int32} (h : Fr I L R t) (h1 : q < t) : Fr (up2 I q k v) L R t := fun p hp => ⟨fun j => by rw [up2_row (show p ≠ q by omega)]; exact (h p hp).1 j, (h p hp).2⟩
theorem Fr.putR {v : Nat} (h : Fr I L R t) (h1 : q < t) : Fr I L (up2 R q k v) t := fun p hp => ⟨(h p hp).1, (h p hp).2.1, fun j => by rw [up2_row (show p ≠ q by omega)]; exact (h p hp).2.2 j⟩
theorem Fr.i (h : Fr I L R t) : ∀ k, I t k = 0 := (h t (Nat.le_refl t)).1
theorem Fr.l (h : Fr I L R t) : ∀ k, L t k = 0 := (h t (Nat.le_refl t)).2.1
theorem Fr.r (h : Fr I L R t) : ∀ k, R t k = 0 := (h t (Nat.le_refl t)).2.2
end B6
def kX1 (K : Nat → Nat × Nat) (t : Nat) : Nat → Nat × Nat := upK K t (2, 240)
def iX1 (I : Nat → Nat → Int32) (q : Nat) (t : Nat) : Nat → Nat → Int32 := I
def rX1 (R : Nat → Nat → Nat) (q : Nat) (t : Nat) : Nat → Nat → Nat := up2 R q 2 (t + 1)
theorem oldX1 {K : Nat → Nat × Nat} {t p : Nat} (h : p < t) : kX1 K t p = K p := by
  unfold kX1
  simp (disch := omega) only [upK_ne]
theorem rowX1 {R : Nat → Nat → Nat} {q t p : Nat} (h : p ≠ q) (h1 : p < t) : rX1 R q t p = R p := by
  unfold rX1
  simp (disch := omega) only [up2_row]
theorem frX1 {I : Nat → Nat → Int32} {L : Nat → Nat → Int64} {R : Nat → Nat → Nat} {q t : Nat} (f : Fr I L R t) (hq : q < t) : Fr (iX1 I q t) L (rX1 R q t) (t + 1) := by
  unfold iX1 rX1
  exact ((Fr.mono (t' := t + 1) f (Nat.le_succ _)).putR (by omega))
theorem sp_X1_init {S : aS} {K : Nat → Nat × Nat} {I : Nat → Nat → Int32} {L : Nat → Nat → Int64} {R : Nat → Nat → Nat} {q t : Nat} (hK : K q = (1, 1)) (hq : q < t) (ht : 200 ≤ t) (f : Fr I L R t) : SpM S m_X1_init 12 1 240 [.ref q] (K, I, L, R, t) (kX1 K t, iX1 I q t, L, rX1 R q t, t + 1) := by
  refine SpM_of ok_X1_init rfl rfl ?_
  refine a_l0 rfl rfl rfl ?_
  refine a_objinit rfl lX1_3 oi_1 oi_2 rfl rfl ?_
  refine a_l0 rfl rfl rfl ?_
  refine a_s rfl rfl ?_
  refine a_newarr (N := 240) (tg := 0) rfl rfl rfl ar_int (by decide) (by decide) rfl (Nat.ble_eq_true_of_le (by omega)) rfl rfl f.i f.l ?_
  replace f := f.mono (t' := t + 1) (Nat.le_succ _)
  refine a_putq rfl pfX1_11_1 (by first | assumption | (simp (disch := omega) only [upK_self, hK, upK_ne]) | (simp (disch := omega) only [upK_ne, upK_self, hK, upK_ne])) ?_
  replace f := f.putR (q := q) (k := 2) (v := t + 1) (by omega)
  exact a_vret rfl rfl ⟨rfl, rfl⟩
def kX0 (K : Nat → Nat × Nat) (t : Nat) : Nat → Nat × Nat := upK (upK K t (2, 12)) (t + 1) (2, 12)
def iX0 (I : Nat → Nat → Int32) (q : Nat) (t : Nat) : Nat → Nat → Int32 := I
def rX0 (R : Nat → Nat → Nat) (q : Nat) (t : Nat) : Nat → Nat → Nat := up2 (up2 R q 0 (t + 1)) q 1 (t + 1 + 1)
theorem oldX0 {K : Nat → Nat × Nat} {t p : Nat} (h : p < t) : kX0 K t p = K p := by
  unfold kX0
  simp (disch := omega) only [upK_ne, oldX1]
theorem rowX0 {R : Nat → Nat → Nat} {q t p : Nat} (h : p ≠ q) (h1 : p < t) : rX0 R q t p = R p := by
  unfold rX0
  simp (disch := omega) only [up2_row, rowX1]
theorem frX0 {I : Nat → Nat → Int32} {L : Nat → Nat → Int64} {R : Nat → Nat → Nat} {q t : Nat} (f : Fr I L R t) (hq : q < t) : Fr (iX0 I q t) L (rX0 R q t) (t + 2) := by
  unfold iX0 rX0
  exact ((Fr.mono (t' := t + 2) ((Fr.mono (t' := t + 1) f (Nat.le_succ _)).putR (by omega)) (Nat.le_succ _)).putR (by omega))
theorem sp_X0_init {S : aS} {K : Nat → Nat × Nat} {I : Nat → Nat → Int32} {L : Nat → Nat → Int64} {R : Nat → Nat → Nat} {q t : Nat} (hK : K q = (1, 0)) (hq : q < t) (ht : 200 ≤ t) (f : Fr I L R t) : SpM S m_X0_init 12 2 24 [.ref q] (K, I, L, R, t) (kX0 K t, iX0 I q t, L, rX0 R q t, t + 2) := by
  refine SpM_of ok_X0_init rfl rfl ?_
  refine a_l0 rfl rfl rfl ?_
  refine a_objinit rfl lX0_3 oi_1 oi_2 rfl rfl ?_
  refine a_l0 rfl rfl rfl ?_
  refine a_s rfl rfl ?_
  refine a_newarr (N := 12) (tg := 0) rfl rfl rfl ar_int (by decide) (by decide) rfl (Nat.ble_eq_true_of_le (by omega)) rfl rfl f.i f.l ?_
  replace f := f.mono (t' := t + 1) (Nat.le_succ _)
  refine a_putq rfl pfX0_9_0 (by first | assumption | (simp (disch := omega) only [upK_self, hK, upK_ne, oldX1]) | (simp (disch := omega) only [upK_ne, upK_self, hK, upK_ne, oldX1])) ?_
  replace f := f.putR (q := q) (k := 0) (v := t + 1) (by omega)
  refine a_l0 rfl rfl rfl ?_
  refine a_s rfl rfl ?_
  refine a_newarr (N := 12) (tg := 0) rfl rfl rfl ar_int (by decide) (by decide) rfl (Nat.ble_eq_true_of_le (by omega)) rfl rfl f.i f.l ?_
  replace f := f.mono (t' := t + 2) (Nat.le_succ _)
  refine a_putq rfl pfX0_15_0 (by first | assumption | (simp (disch := omega) only [upK_self, hK, upK_ne, oldX1]) | (simp (disch := omega) only [upK_ne, upK_self, hK, upK_ne, oldX1])) ?_
  replace f := f.putR (q := q) (k := 1) (v := t + 1 + 1) (by omega)
  exact a_vret rfl rfl ⟨rfl, rfl⟩
def kX2 (K : Nat → Nat × Nat) (t : Nat) : Nat → Nat × Nat := upK (upK (upK (upK (upK (upK (upK K t (2, 12)) (t + 1) (2, 12)) (t + 2) (2, 12)) (t + 3) (2, 12)) (t + 4) (2, 400)) (t + 5) (2, 9)) (t + 6) (2, 32)
def iX2 (I : Nat → Nat → Int32) (q : Nat) (t : Nat) : Nat → Nat → Int32 := up2 I q 0 (-1)
def rX2 (R : Nat → Nat → Nat) (q : Nat) (t : Nat) : Nat → Nat → Nat := up2 (up2 (up2 (up2 (up2 (up2 (up2 R q 2 (t + 1)) q 3 (t + 1 + 1)) q 4 (t + 2 + 1)) q 5 (t + 3 + 1)) q 6 (t + 4 + 1)) q 7 (t + 5 + 1)) q 8 (t + 6 + 1)
theorem oldX2 {K : Nat → Nat × Nat} {t p : Nat} (h : p < t) : kX2 K t p = K p := by
  unfold kX2
  simp (disch := omega) only [upK_ne, oldX1, oldX0]
theorem rowX2 {R : Nat → Nat → Nat} {q t p : Nat} (h : p ≠ q) (h1 : p < t) : rX2 R q t p = R p := by
  unfold rX2
  simp (disch := omega) only [up2_row, rowX1, rowX0]
theorem frX2 {I : Nat → Nat → Int32} {L : Nat → Nat → Int64} {R : Nat → Nat → Nat} {q t : Nat} (f : Fr I L R t) (hq : q < t) : Fr (iX2 I q t) L (rX2 R q t) (t + 7) := by
  unfold iX2 rX2
  exact ((Fr.mono (t' := t + 7) ((Fr.mono (t' := t + 6) ((Fr.mono (t' := t + 5) ((Fr.mono (t' := t + 4) ((Fr.mono (t' := t + 3) ((Fr.mono (t' := t + 2) ((Fr.mono (t' := t + 1) (f.putI (by omega)) (Nat.le_succ _)).putR (by omega)) (Nat.le_succ _)).putR (by omega)) (Nat.le_succ _)).putR (by omega)) (Nat.le_succ _)).putR (by omega)) (Nat.le_succ _)).putR (by omega)) (Nat.le_succ _)).putR (by omega)) (Nat.le_succ _)).putR (by omega))
theorem sp_X2_init {S : aS} {K : Nat → Nat × Nat} {I : Nat → Nat → Int32} {L : Nat → Nat → Int64} {R : Nat → Nat → Nat} {q t : Nat} (hK : K q = (1, 2)) (hq : q < t) (ht : 200 ≤ t) (f : Fr I L R t) : SpM S m_X2_init 12 7 489 [.ref q] (K, I, L, R, t) (kX2 K t, iX2 I q t, L, rX2 R q t, t + 7) := by
  refine SpM_of ok_X2_init rfl rfl ?_
  refine a_l0 rfl rfl rfl ?_
  refine a_objinit rfl lX2_5 oi_1 oi_2 rfl rfl ?_
  refine a_l0 rfl rfl rfl ?_
  refine a_s rfl rfl ?_
  refine a_puti rfl pfX2_11_2 (by first | assumption | (simp (disch := omega) only [upK_self, hK, upK_ne, oldX1, oldX0]) | (simp (disch := omega) only [upK_ne, upK_self, hK, upK_ne, oldX1, oldX0])) ?_
  replace f := f.putI (q := q) (k := 0) (v := (-1)) (by omega)
  refine a_l0 rfl rfl rfl ?_
  refine a_s rfl rfl ?_
  refine a_newarr (N := 12) (tg := 0) rfl rfl rfl ar_int (by decide) (by decide) rfl (Nat.ble_eq_true_of_le (by omega)) rfl rfl f.i f.l ?_
  replace f := f.mono (t' := t + 1) (Nat.le_succ _)
  refine a_putq rfl pfX2_15_2 (by first | assumption | (simp (disch := omega) only [upK_self, hK, upK_ne, oldX1, oldX0]) | (simp (disch := omega) only [upK_ne, upK_self, hK, upK_ne, oldX1, oldX0])) ?_
  replace f := f.putR (q := q) (k := 2) (v := t + 1) (by omega)
  refine a_l0 rfl rfl rfl ?_
  refine a_s rfl rfl ?_
  refine a_newarr (N := 12) (tg := 0) rfl rfl rfl ar_int (by decide) (by decide) rfl (Nat.ble_eq_true_of_le (by omega)) rfl rfl f.i f.l ?_
  replace f := f.mono (t' := t + 2) (Nat.le_succ _)
  refine a_putq rfl pfX2_19_2 (by first | assumption | (simp (disch := omega) only [upK_self, hK, upK_ne, oldX1, oldX0]) | (simp (disch := omega) only [upK_ne, upK_self, hK, upK_ne, oldX1, oldX0])) ?_
  replace f := f.putR (q := q) (k := 3) (v := t + 1 + 1) (by omega)
  refine a_l0 rfl rfl rfl ?_
  refine a_s rfl rfl ?_
  refine a_newarr (N := 12) (tg := 0) rfl rfl rfl ar_int (by decide) (by decide) rfl (Nat.ble_eq_true_of_le (by omega)) rfl rfl f.i f.l ?_
  replace f := f.mono (t' := t + 3) (Nat.le_succ _)
  refine a_putq rfl pfX2_22_2 (by first | assumption | (simp (disch := omega) only [upK_self, hK, upK_ne, oldX1, oldX0]) | (simp (disch := omega) only [upK_ne, upK_self, hK, upK_ne, oldX1, oldX0])) ?_
  replace f := f.putR (q := q) (k := 4) (v := t + 2 + 1) (by omega)
  refine a_l0 rfl rfl rfl ?_
  refine a_s rfl rfl ?_
  refine a_newarr (N := 12) (tg := 0) rfl rfl rfl ar_int (by decide) (by decide) rfl (Nat.ble_eq_true_of_le (by omega)) rfl rfl f.i f.l ?_
  replace f := f.mono (t' := t + 4) (Nat.le_succ _)
  refine a_putq rfl pfX2_25_2 (by first | assumption | (simp (disch := omega) only [upK_self, hK, upK_ne, oldX1, oldX0]) | (simp (disch := omega) only [upK_ne, upK_self, hK, upK_ne, oldX1, oldX0])) ?_
  replace f := f.putR (q := q) (k := 5) (v := t + 3 + 1) (by omega)
  refine a_l0 rfl rfl rfl ?_
  refine a_s rfl rfl ?_
  refine a_newarr (N := 400) (tg := 0) rfl rfl rfl ar_int (by decide) (by decide) rfl (Nat.ble_eq_true_of_le (by omega)) rfl rfl f.i f.l ?_
  replace f := f.mono (t' := t + 5) (Nat.le_succ _)
  refine a_putq rfl pfX2_28_2 (by first | assumption | (simp (disch := omega) only [upK_self, hK, upK_ne, oldX1, oldX0]) | (simp (disch := omega) only [upK_ne, upK_self, hK, upK_ne, oldX1, oldX0])) ?_
  replace f := f.putR (q := q) (k := 6) (v := t + 4 + 1) (by omega)
  refine a_l0 rfl rfl rfl ?_
  refine a_s rfl rfl ?_
  refine a_newarr (N := 9) (tg := 0) rfl rfl rfl ar_int (by decide) (by decide) rfl (Nat.ble_eq_true_of_le (by omega)) rfl rfl f.i f.l ?_
  replace f := f.mono (t' := t + 6) (Nat.le_succ _)
  refine a_putq rfl pfX2_31_2 (by first | assumption | (simp (disch := omega) only [upK_self, hK, upK_ne, oldX1, oldX0]) | (simp (disch := omega) only [upK_ne, upK_self, hK, upK_ne, oldX1, oldX0])) ?_
  replace f := f.putR (q := q) (k := 7) (v := t + 5 + 1) (by omega)
  refine a_l0 rfl rfl rfl ?_
  refine a_s rfl rfl ?_
  refine a_newarr (N := 32) (tg := 0) rfl rfl rfl ar_int (by decide) (by decide) rfl (Nat.ble_eq_true_of_le (by omega)) rfl rfl f.i f.l ?_
  replace f := f.mono (t' := t + 7) (Nat.le_succ _)
  refine a_putq rfl pfX2_34_2 (by first | assumption | (simp (disch := omega) only [upK_self, hK, upK_ne, oldX1, oldX0]) | (simp (disch := omega) only [upK_ne, upK_self, hK, upK_ne, oldX1, oldX0])) ?_
  replace f := f.putR (q := q) (k := 8) (v := t + 6 + 1) (by omega)
  exact a_vret rfl rfl ⟨rfl, rfl⟩
def kX7 (K : Nat → Nat × Nat) (t : Nat) : Nat → Nat × Nat := upK K t (3, 400)
def iX7 (I : Nat → Nat → Int32) (q : Nat) (t : Nat) : Nat → Nat → Int32 := I
def rX7 (R : Nat → Nat → Nat) (q : Nat) (t : Nat) : Nat → Nat → Nat := up2 R q 0 (t + 1)
theorem oldX7 {K : Nat → Nat × Nat} {t p : Nat} (h : p < t) : kX7 K t p = K p := by
  unfold kX7
  simp (disch := omega) only [upK_ne, oldX1, oldX0, oldX2]
theorem rowX7 {R : Nat → Nat → Nat} {q t p : Nat} (h : p ≠ q) (h1 : p < t) : rX7 R q t p = R p := by
  unfold rX7
  simp (disch := omega) only [up2_row, rowX1, rowX0, rowX2]
theorem frX7 {I : Nat → Nat → Int32} {L : Nat → Nat → Int64} {R : Nat → Nat → Nat} {q t : Nat} (f : Fr I L R t) (hq : q < t) : Fr (iX7 I q t) L (rX7 R q t) (t + 1) := by
  unfold iX7 rX7
  exact ((Fr.mono (t' := t + 1) f (Nat.le_succ _)).putR (by omega))
theorem sp_X7_init {S : aS} {K : Nat → Nat × Nat} {I : Nat → Nat → Int32} {L : Nat → Nat → Int64} {R : Nat → Nat → Nat} {q t : Nat} (hK : K q = (1, 7)) (hq : q < t) (ht : 200 ≤ t) (f : Fr I L R t) : SpM S m_X7_init 12 1 400 [.ref q] (K, I, L, R, t) (kX7 K t, iX7 I q t, L, rX7 R q t, t + 1) := by
  refine SpM_of ok_X7_init rfl rfl ?_
  refine a_l0 rfl rfl rfl ?_
  refine a_objinit rfl lX7_3 oi_1 oi_2 rfl rfl ?_
  refine a_l0 rfl rfl rfl ?_
  refine a_s rfl rfl ?_
  refine a_newarr (N := 400) (tg := 1) rfl rfl rfl ar_byte (by decide) (by decide) rfl (Nat.ble_eq_true_of_le (by omega)) rfl rfl f.i f.l ?_
  replace f := f.mono (t' := t + 1) (Nat.le_succ _)
  refine a_putq rfl pfX7_9_7 (by first | assumption | (simp (disch := omega) only [upK_self, hK, upK_ne, oldX1, oldX0, oldX2]) | (simp (disch := omega) only [upK_ne, upK_self, hK, upK_ne, oldX1, oldX0, oldX2])) ?_
  replace f := f.putR (q := q) (k := 0) (v := t + 1) (by omega)
  exact a_vret rfl rfl ⟨rfl, rfl⟩
def kX9 (K : Nat → Nat × Nat) (t : Nat) : Nat → Nat × Nat := upK (upK (upK (upK K t (2, 401)) (t + 1) (2, 401)) (t + 2) (2, 401)) (t + 3) (2, 401)
def iX9 (I : Nat → Nat → Int32) (q : Nat) (t : Nat) : Nat → Nat → Int32 := I
def rX9 (R : Nat → Nat → Nat) (q : Nat) (t : Nat) : Nat → Nat → Nat := up2 (up2 (up2 (up2 R q 0 (t + 1)) q 1 (t + 1 + 1)) q 2 (t + 2 + 1)) q 3 (t + 3 + 1)
theorem oldX9 {K : Nat → Nat × Nat} {t p : Nat} (h : p < t) : kX9 K t p = K p := by
  unfold kX9
  simp (disch := omega) only [upK_ne, oldX1, oldX0, oldX2, oldX7]
theorem rowX9 {R : Nat → Nat → Nat} {q t p : Nat} (h : p ≠ q) (h1 : p < t) : rX9 R q t p = R p := by
  unfold rX9
  simp (disch := omega) only [up2_row, rowX1, rowX0, rowX2, rowX7]
theorem frX9 {I : Nat → Nat → Int32} {L : Nat → Nat → Int64} {R : Nat → Nat → Nat} {q t : Nat} (f : Fr I L R t) (hq : q < t) : Fr (iX9 I q t) L (rX9 R q t) (t + 4) := by
  unfold iX9 rX9
  exact ((Fr.mono (t' := t + 4) ((Fr.mono (t' := t + 3) ((Fr.mono (t' := t + 2) ((Fr.mono (t' := t + 1) f (Nat.le_succ _)).putR (by omega)) (Nat.le_succ _)).putR (by omega)) (Nat.le_succ _)).putR (by omega)) (Nat.le_succ _)).putR (by omega))
theorem sp_X9_init {S : aS} {K : Nat → Nat × Nat} {I : Nat → Nat → Int32} {L : Nat → Nat → Int64} {R : Nat → Nat → Nat} {q t : Nat} (hK : K q = (1, 9)) (hq : q < t) (ht : 200 ≤ t) (f : Fr I L R t) : SpM S m_X9_init 12 4 1604 [.ref q] (K, I, L, R, t) (kX9 K t, iX9 I q t, L, rX9 R q t, t + 4) := by
  refine SpM_of ok_X9_init rfl rfl ?_
  refine a_l0 rfl rfl rfl ?_
  refine a_objinit rfl lX9_3 oi_1 oi_2 rfl rfl ?_
  refine a_l0 rfl rfl rfl ?_
  refine a_s rfl rfl ?_
  refine a_newarr (N := 401) (tg := 0) rfl rfl rfl ar_int (by decide) (by decide) rfl (Nat.ble_eq_true_of_le (by omega)) rfl rfl f.i f.l ?_
  replace f := f.mono (t' := t + 1) (Nat.le_succ _)
  refine a_putq rfl pfX9_9_9 (by first | assumption | (simp (disch := omega) only [upK_self, hK, upK_ne, oldX1, oldX0, oldX2, oldX7]) | (simp (disch := omega) only [upK_ne, upK_self, hK, upK_ne, oldX1, oldX0, oldX2, oldX7])) ?_
  replace f := f.putR (q := q) (k := 0) (v := t + 1) (by omega)
  refine a_l0 rfl rfl rfl ?_
  refine a_s rfl rfl ?_
  refine a_newarr (N := 401) (tg := 0) rfl rfl rfl ar_int (by decide) (by decide) rfl (Nat.ble_eq_true_of_le (by omega)) rfl rfl f.i f.l ?_
  replace f := f.mono (t' := t + 2) (Nat.le_succ _)
  refine a_putq rfl pfX9_15_9 (by first | assumption | (simp (disch := omega) only [upK_self, hK, upK_ne, oldX1, oldX0, oldX2, oldX7]) | (simp (disch := omega) only [upK_ne, upK_self, hK, upK_ne, oldX1, oldX0, oldX2, oldX7])) ?_
  replace f := f.putR (q := q) (k := 1) (v := t + 1 + 1) (by omega)
  refine a_l0 rfl rfl rfl ?_
  refine a_s rfl rfl ?_
  refine a_newarr (N := 401) (tg := 0) rfl rfl rfl ar_int (by decide) (by decide) rfl (Nat.ble_eq_true_of_le (by omega)) rfl rfl f.i f.l ?_
  replace f := f.mono (t' := t + 3) (Nat.le_succ _)
  refine a_putq rfl pfX9_18_9 (by first | assumption | (simp (disch := omega) only [upK_self, hK, upK_ne, oldX1, oldX0, oldX2, oldX7]) | (simp (disch := omega) only [upK_ne, upK_self, hK, upK_ne, oldX1, oldX0, oldX2, oldX7])) ?_
  replace f := f.putR (q := q) (k := 2) (v := t + 2 + 1) (by omega)
  refine a_l0 rfl rfl rfl ?_
  refine a_s rfl rfl ?_
  refine a_newarr (N := 401) (tg := 0) rfl rfl rfl ar_int (by decide) (by decide) rfl (Nat.ble_eq_true_of_le (by omega)) rfl rfl f.i f.l ?_
  replace f := f.mono (t' := t + 4) (Nat.le_succ _)
  refine a_putq rfl pfX9_21_9 (by first | assumption | (simp (disch := omega) only [upK_self, hK, upK_ne, oldX1, oldX0, oldX2, oldX7]) | (simp (disch := omega) only [upK_ne, upK_self, hK, upK_ne, oldX1, oldX0, oldX2, oldX7])) ?_
  replace f := f.putR (q := q) (k := 3) (v := t + 3 + 1) (by omega)
  exact a_vret rfl rfl ⟨rfl, rfl⟩
def kX5 (K : Nat → Nat × Nat) (t : Nat) : Nat → Nat × Nat := kX1 (upK (upK (upK (upK (upK (upK (upK (upK (upK K t (2, 6)) (t + 1) (2, 6)) (t + 2) (2, 12)) (t + 3) (2, 12)) (t + 4) (2, 12)) (t + 5) (2, 12)) (t + 6) (2, 12)) (t + 7) (2, 12)) (t + 8) (1, 1)) (t + 9)
def iX5 (I : Nat → Nat → Int32) (q : Nat) (t : Nat) : Nat → Nat → Int32 := iX1 (up2 (up2 (up2 (up2 I q 10 1) q 13 2) q 14 3) q 15 1) (t + 8) (t + 9)
def rX5 (R : Nat → Nat → Nat) (q : Nat) (t : Nat) : Nat → Nat → Nat := up2 (rX1 (up2 (up2 (up2 (up2 (up2 (up2 (up2 (up2 R q 1 (t + 1)) q 2 (t + 1 + 1)) q 4 (t + 2 + 1)) q 5 (t + 3 + 1)) q 6 (t + 4 + 1)) q 7 (t + 5 + 1)) q 8 (t + 6 + 1)) q 9 (t + 7 + 1)) (t + 8) (t + 9)) q 17 (t + 8 + 1)
theorem oldX5 {K : Nat → Nat × Nat} {t p : Nat} (h : p < t) : kX5 K t p = K p := by
  unfold kX5
  simp (disch := omega) only [upK_ne, oldX1, oldX0, oldX2, oldX7, oldX9]
theorem rowX5 {R : Nat → Nat → Nat} {q t p : Nat} (h : p ≠ q) (h1 : p < t) : rX5 R q t p = R p := by
  unfold rX5
  simp (disch := omega) only [up2_row, rowX1, rowX0, rowX2, rowX7, rowX9]
theorem frX5 {I : Nat → Nat → Int32} {L : Nat → Nat → Int64} {R : Nat → Nat → Nat} {q t : Nat} (f : Fr I L R t) (hq : q < t) : Fr (iX5 I q t) L (rX5 R q t) (t + 10) := by
  unfold iX5 rX5
  exact ((frX1 (Fr.mono (t' := t + 9) ((((((Fr.mono (t' := t + 8) ((Fr.mono (t' := t + 7) ((Fr.mono (t' := t + 6) ((Fr.mono (t' := t + 5) ((Fr.mono (t' := t + 4) ((Fr.mono (t' := t + 3) ((Fr.mono (t' := t + 2) ((Fr.mono (t' := t + 1) f (Nat.le_succ _)).putR (by omega)) (Nat.le_succ _)).putR (by omega)) (Nat.le_succ _)).putR (by omega)) (Nat.le_succ _)).putR (by omega)) (Nat.le_succ _)).putR (by omega)) (Nat.le_succ _)).putR (by omega)) (Nat.le_succ _)).putR (by omega)) (Nat.le_succ _)).putR (by omega)).putI (by omega)).putI (by omega)).putI (by omega)).putI (by omega)) (Nat.le_succ _)) (by omega)).putR (by omega))
theorem sp_X5_init {S : aS} {K : Nat → Nat × Nat} {I : Nat → Nat → Int32} {L : Nat → Nat → Int64} {R : Nat → Nat → Nat} {q t : Nat} (hK : K q = (1, 5)) (hq : q < t) (ht : 200 ≤ t) (f : Fr I L R t) : SpM S m_X5_init 13 10 327 [.ref q] (K, I, L, R, t) (kX5 K t, iX5 I q t, L, rX5 R q t, t + 10) := by
  refine SpM_of ok_X5_init rfl rfl ?_
  refine a_l0 rfl rfl rfl ?_
  refine a_objinit rfl lX5_3 oi_1 oi_2 rfl rfl ?_
  refine a_l0 rfl rfl rfl ?_
  refine a_s rfl rfl ?_
  refine a_newarr (N := 6) (tg := 0) rfl rfl rfl ar_int (by decide) (by decide) rfl (Nat.ble_eq_true_of_le (by omega)) rfl rfl f.i f.l ?_
  replace f := f.mono (t' := t + 1) (Nat.le_succ _)
  refine a_putq rfl pfX5_9_5 (by first | assumption | (simp (disch := omega) only [upK_self, hK, upK_ne, oldX1, oldX0, oldX2, oldX7, oldX9]) | (simp (disch := omega) only [upK_ne, upK_self, hK, upK_ne, oldX1, oldX0, oldX2, oldX7, oldX9])) ?_
  replace f := f.putR (q := q) (k := 1) (v := t + 1) (by omega)
  refine a_l0 rfl rfl rfl ?_
  refine a_s rfl rfl ?_
  refine a_newarr (N := 6) (tg := 0) rfl rfl rfl ar_int (by decide) (by decide) rfl (Nat.ble_eq_true_of_le (by omega)) rfl rfl f.i f.l ?_
  replace f := f.mono (t' := t + 2) (Nat.le_succ _)
  refine a_putq rfl pfX5_15_5 (by first | assumption | (simp (disch := omega) only [upK_self, hK, upK_ne, oldX1, oldX0, oldX2, oldX7, oldX9]) | (simp (disch := omega) only [upK_ne, upK_self, hK, upK_ne, oldX1, oldX0, oldX2, oldX7, oldX9])) ?_
  replace f := f.putR (q := q) (k := 2) (v := t + 1 + 1) (by omega)
  refine a_l0 rfl rfl rfl ?_
  refine a_s rfl rfl ?_
  refine a_newarr (N := 12) (tg := 0) rfl rfl rfl ar_int (by decide) (by decide) rfl (Nat.ble_eq_true_of_le (by omega)) rfl rfl f.i f.l ?_
  replace f := f.mono (t' := t + 3) (Nat.le_succ _)
  refine a_putq rfl pfX5_18_5 (by first | assumption | (simp (disch := omega) only [upK_self, hK, upK_ne, oldX1, oldX0, oldX2, oldX7, oldX9]) | (simp (disch := omega) only [upK_ne, upK_self, hK, upK_ne, oldX1, oldX0, oldX2, oldX7, oldX9])) ?_
  replace f := f.putR (q := q) (k := 4) (v := t + 2 + 1) (by omega)
  refine a_l0 rfl rfl rfl ?_
  refine a_s rfl rfl ?_
  refine a_newarr (N := 12) (tg := 0) rfl rfl rfl ar_int (by decide) (by decide) rfl (Nat.ble_eq_true_of_le (by omega)) rfl rfl f.i f.l ?_
  replace f := f.mono (t' := t + 4) (Nat.le_succ _)
  refine a_putq rfl pfX5_21_5 (by first | assumption | (simp (disch := omega) only [upK_self, hK, upK_ne, oldX1, oldX0, oldX2, oldX7, oldX9]) | (simp (disch := omega) only [upK_ne, upK_self, hK, upK_ne, oldX1, oldX0, oldX2, oldX7, oldX9])) ?_
  replace f := f.putR (q := q) (k := 5) (v := t + 3 + 1) (by omega)
  refine a_l0 rfl rfl rfl ?_
  refine a_s rfl rfl ?_
  refine a_newarr (N := 12) (tg := 0) rfl rfl rfl ar_int (by decide) (by decide) rfl (Nat.ble_eq_true_of_le (by omega)) rfl rfl f.i f.l ?_
  replace f := f.mono (t' := t + 5) (Nat.le_succ _)
  refine a_putq rfl pfX5_24_5 (by first | assumption | (simp (disch := omega) only [upK_self, hK, upK_ne, oldX1, oldX0, oldX2, oldX7, oldX9]) | (simp (disch := omega) only [upK_ne, upK_self, hK, upK_ne, oldX1, oldX0, oldX2, oldX7, oldX9])) ?_
  replace f := f.putR (q := q) (k := 6) (v := t + 4 + 1) (by omega)
  refine a_l0 rfl rfl rfl ?_
  refine a_s rfl rfl ?_
  refine a_newarr (N := 12) (tg := 0) rfl rfl rfl ar_int (by decide) (by decide) rfl (Nat.ble_eq_true_of_le (by omega)) rfl rfl f.i f.l ?_
  replace f := f.mono (t' := t + 6) (Nat.le_succ _)
  refine a_putq rfl pfX5_27_5 (by first | assumption | (simp (disch := omega) only [upK_self, hK, upK_ne, oldX1, oldX0, oldX2, oldX7, oldX9]) | (simp (disch := omega) only [upK_ne, upK_self, hK, upK_ne, oldX1, oldX0, oldX2, oldX7, oldX9])) ?_
  replace f := f.putR (q := q) (k := 7) (v := t + 5 + 1) (by omega)
  refine a_l0 rfl rfl rfl ?_
  refine a_s rfl rfl ?_
  refine a_newarr (N := 12) (tg := 0) rfl rfl rfl ar_int (by decide) (by decide) rfl (Nat.ble_eq_true_of_le (by omega)) rfl rfl f.i f.l ?_
  replace f := f.mono (t' := t + 7) (Nat.le_succ _)
  refine a_putq rfl pfX5_30_5 (by first | assumption | (simp (disch := omega) only [upK_self, hK, upK_ne, oldX1, oldX0, oldX2, oldX7, oldX9]) | (simp (disch := omega) only [upK_ne, upK_self, hK, upK_ne, oldX1, oldX0, oldX2, oldX7, oldX9])) ?_
  replace f := f.putR (q := q) (k := 8) (v := t + 6 + 1) (by omega)
  refine a_l0 rfl rfl rfl ?_
  refine a_s rfl rfl ?_
  refine a_newarr (N := 12) (tg := 0) rfl rfl rfl ar_int (by decide) (by decide) rfl (Nat.ble_eq_true_of_le (by omega)) rfl rfl f.i f.l ?_
  replace f := f.mono (t' := t + 8) (Nat.le_succ _)
  refine a_putq rfl pfX5_33_5 (by first | assumption | (simp (disch := omega) only [upK_self, hK, upK_ne, oldX1, oldX0, oldX2, oldX7, oldX9]) | (simp (disch := omega) only [upK_ne, upK_self, hK, upK_ne, oldX1, oldX0, oldX2, oldX7, oldX9])) ?_
  replace f := f.putR (q := q) (k := 9) (v := t + 7 + 1) (by omega)
  refine a_l0 rfl rfl rfl ?_
  refine a_s rfl rfl ?_
  refine a_puti rfl pfX5_36_5 (by first | assumption | (simp (disch := omega) only [upK_self, hK, upK_ne, oldX1, oldX0, oldX2, oldX7, oldX9]) | (simp (disch := omega) only [upK_ne, upK_self, hK, upK_ne, oldX1, oldX0, oldX2, oldX7, oldX9])) ?_
  replace f := f.putI (q := q) (k := 10) (v := 1) (by omega)
  refine a_l0 rfl rfl rfl ?_
  refine a_s rfl rfl ?_
  refine a_puti rfl pfX5_40_5 (by first | assumption | (simp (disch := omega) only [upK_self, hK, upK_ne, oldX1, oldX0, oldX2, oldX7, oldX9]) | (simp (disch := omega) only [upK_ne, upK_self, hK, upK_ne, oldX1, oldX0, oldX2, oldX7, oldX9])) ?_
  replace f := f.putI (q := q) (k := 13) (v := 2) (by omega)
  refine a_l0 rfl rfl rfl ?_
  refine a_s rfl rfl ?_
  refine a_puti rfl pfX5_43_5 (by first | assumption | (simp (disch := omega) only [upK_self, hK, upK_ne, oldX1, oldX0, oldX2, oldX7, oldX9]) | (simp (disch := omega) only [upK_ne, upK_self, hK, upK_ne, oldX1, oldX0, oldX2, oldX7, oldX9])) ?_
  replace f := f.putI (q := q) (k := 14) (v := 3) (by omega)
  refine a_l0 rfl rfl rfl ?_
  refine a_s rfl rfl ?_
  refine a_puti rfl pfX5_46_5 (by first | assumption | (simp (disch := omega) only [upK_self, hK, upK_ne, oldX1, oldX0, oldX2, oldX7, oldX9]) | (simp (disch := omega) only [upK_ne, upK_self, hK, upK_ne, oldX1, oldX0, oldX2, oldX7, oldX9])) ?_
  replace f := f.putI (q := q) (k := 15) (v := 1) (by omega)
  refine a_l0 rfl rfl rfl ?_
  refine a_new rfl nX5_49 (Nat.ble_eq_true_of_le (by omega)) rfl rfl f.i f.r ?_
  replace f := f.mono (t' := t + 9) (Nat.le_succ _)
  refine a_s rfl rfl ?_
  refine a_mIN rfl lX5_51 mo_X1_init (sp_X1_init (by first | assumption | (simp (disch := omega) only [upK_self, hK, upK_ne, oldX1, oldX0, oldX2, oldX7, oldX9]) | (simp (disch := omega) only [upK_ne, upK_self, hK, upK_ne, oldX1, oldX0, oldX2, oldX7, oldX9])) (by omega) (by omega) f) rfl rfl rfl rfl ?_
  replace f := frX1 (q := t + 8) f (by omega)
  refine a_putq rfl pfX5_52_5 (by first | assumption | (simp (disch := omega) only [upK_self, hK, upK_ne, oldX1, oldX0, oldX2, oldX7, oldX9]) | (simp (disch := omega) only [upK_ne, upK_self, hK, upK_ne, oldX1, oldX0, oldX2, oldX7, oldX9])) ?_
  replace f := f.putR (q := q) (k := 17) (v := t + 8 + 1) (by omega)
  exact a_vret rfl rfl ⟨rfl, rfl⟩
def kX8_3 (K : Nat → Nat × Nat) (t : Nat) : Nat → Nat × Nat := kX9 (upK K t (1, 9)) (t + 1)
def iX8_3 (I : Nat → Nat → Int32) (q : Nat) (t : Nat) (n : Int32) : Nat → Nat → Int32 := up2 (iX9 I t (t + 1)) q 1 n
def rX8_3 (R : Nat → Nat → Nat) (q : Nat) (t : Nat) : Nat → Nat → Nat := up2 (rX9 R t (t + 1)) q 0 (t + 1)
theorem oldX8_3 {K : Nat → Nat × Nat} {t p : Nat} (h : p < t) : kX8_3 K t p = K p := by
  unfold kX8_3
  simp (disch := omega) only [upK_ne, oldX1, oldX0, oldX2, oldX7, oldX9, oldX5]
theorem rowX8_3 {R : Nat → Nat → Nat} {q t p : Nat} (h : p ≠ q) (h1 : p < t) : rX8_3 R q t p = R p := by
  unfold rX8_3
  simp (disch := omega) only [up2_row, rowX1, rowX0, rowX2, rowX7, rowX9, rowX5]
theorem frX8_3 {I : Nat → Nat → Int32} {L : Nat → Nat → Int64} {R : Nat → Nat → Nat} {q t : Nat} {n : Int32} (f : Fr I L R t) (hq : q < t) : Fr (iX8_3 I q t n) L (rX8_3 R q t) (t + 5) := by
  unfold iX8_3 rX8_3
  exact (((frX9 (Fr.mono (t' := t + 1) f (Nat.le_succ _)) (by omega)).putR (by omega)).putI (by omega))
theorem sp_X8_3_init {S : aS} {K : Nat → Nat × Nat} {I : Nat → Nat → Int32} {L : Nat → Nat → Int64} {R : Nat → Nat → Nat} {q t : Nat} {n : Int32} (hK : K q = (1, 3)) (hq : q < t) (ht : 200 ≤ t) (f : Fr I L R t) : SpM S m_X8_init 13 5 1614 [.ref q, .int n] (K, I, L, R, t) (kX8_3 K t, iX8_3 I q t n, L, rX8_3 R q t, t + 5) := by
  refine SpM_of ok_X8_init rfl rfl ?_
  refine a_l0 rfl rfl rfl ?_
  refine a_objinit rfl lX8_3 oi_1 oi_2 rfl rfl ?_
  refine a_l0 rfl rfl rfl ?_
  refine a_new rfl nX8_9 (Nat.ble_eq_true_of_le (by omega)) rfl rfl f.i f.r ?_
  replace f := f.mono (t' := t + 1) (Nat.le_succ _)
  refine a_s rfl rfl ?_
  refine a_mIN rfl lX8_11 mo_X9_init (sp_X9_init (by first | assumption | (simp (disch := omega) only [upK_self, hK, upK_ne, oldX1, oldX0, oldX2, oldX7, oldX9, oldX5]) | (simp (disch := omega) only [upK_ne, upK_self, hK, upK_ne, oldX1, oldX0, oldX2, oldX7, oldX9, oldX5])) (by omega) (by omega) f) rfl rfl rfl rfl ?_
  replace f := frX9 (q := t) f (by omega)
  refine a_putq rfl pfX8_12_3 (by first | assumption | (simp (disch := omega) only [upK_self, hK, upK_ne, oldX1, oldX0, oldX2, oldX7, oldX9, oldX5]) | (simp (disch := omega) only [upK_ne, upK_self, hK, upK_ne, oldX1, oldX0, oldX2, oldX7, oldX9, oldX5])) ?_
  replace f := f.putR (q := q) (k := 0) (v := t + 1) (by omega)
  refine a_l0 rfl rfl rfl ?_
  refine a_l1 rfl rfl rfl ?_
  refine a_puti rfl pfX8_18_3 (by first | assumption | (simp (disch := omega) only [upK_self, hK, upK_ne, oldX1, oldX0, oldX2, oldX7, oldX9, oldX5]) | (simp (disch := omega) only [upK_ne, upK_self, hK, upK_ne, oldX1, oldX0, oldX2, oldX7, oldX9, oldX5])) ?_
  replace f := f.putI (q := q) (k := 1) (v := n) (by omega)
  exact a_vret rfl rfl ⟨rfl, rfl⟩
def kX8_6 (K : Nat → Nat × Nat) (t : Nat) : Nat → Nat × Nat := kX9 (upK K t (1, 9)) (t + 1)
def iX8_6 (I : Nat → Nat → Int32) (q : Nat) (t : Nat) (n : Int32) : Nat → Nat → Int32 := up2 (iX9 I t (t + 1)) q 1 n
def rX8_6 (R : Nat → Nat → Nat) (q : Nat) (t : Nat) : Nat → Nat → Nat := up2 (rX9 R t (t + 1)) q 0 (t + 1)
theorem oldX8_6 {K : Nat → Nat × Nat} {t p : Nat} (h : p < t) : kX8_6 K t p = K p := by
  unfold kX8_6
  simp (disch := omega) only [upK_ne, oldX1, oldX0, oldX2, oldX7, oldX9, oldX5, oldX8_3]
theorem rowX8_6 {R : Nat → Nat → Nat} {q t p : Nat} (h : p ≠ q) (h1 : p < t) : rX8_6 R q t p = R p := by
  unfold rX8_6
  simp (disch := omega) only [up2_row, rowX1, rowX0, rowX2, rowX7, rowX9, rowX5, rowX8_3]
theorem frX8_6 {I : Nat → Nat → Int32} {L : Nat → Nat → Int64} {R : Nat → Nat → Nat} {q t : Nat} {n : Int32} (f : Fr I L R t) (hq : q < t) : Fr (iX8_6 I q t n) L (rX8_6 R q t) (t + 5) := by
  unfold iX8_6 rX8_6
  exact (((frX9 (Fr.mono (t' := t + 1) f (Nat.le_succ _)) (by omega)).putR (by omega)).putI (by omega))
theorem sp_X8_6_init {S : aS} {K : Nat → Nat × Nat} {I : Nat → Nat → Int32} {L : Nat → Nat → Int64} {R : Nat → Nat → Nat} {q t : Nat} {n : Int32} (hK : K q = (1, 6)) (hq : q < t) (ht : 200 ≤ t) (f : Fr I L R t) : SpM S m_X8_init 13 5 1614 [.ref q, .int n] (K, I, L, R, t) (kX8_6 K t, iX8_6 I q t n, L, rX8_6 R q t, t + 5) := by
  refine SpM_of ok_X8_init rfl rfl ?_
  refine a_l0 rfl rfl rfl ?_
  refine a_objinit rfl lX8_3 oi_1 oi_2 rfl rfl ?_
  refine a_l0 rfl rfl rfl ?_
  refine a_new rfl nX8_9 (Nat.ble_eq_true_of_le (by omega)) rfl rfl f.i f.r ?_
  replace f := f.mono (t' := t + 1) (Nat.le_succ _)
  refine a_s rfl rfl ?_
  refine a_mIN rfl lX8_11 mo_X9_init (sp_X9_init (by first | assumption | (simp (disch := omega) only [upK_self, hK, upK_ne, oldX1, oldX0, oldX2, oldX7, oldX9, oldX5, oldX8_3]) | (simp (disch := omega) only [upK_ne, upK_self, hK, upK_ne, oldX1, oldX0, oldX2, oldX7, oldX9, oldX5, oldX8_3])) (by omega) (by omega) f) rfl rfl rfl rfl ?_
  replace f := frX9 (q := t) f (by omega)
  refine a_putq rfl pfX8_12_6 (by first | assumption | (simp (disch := omega) only [upK_self, hK, upK_ne, oldX1, oldX0, oldX2, oldX7, oldX9, oldX5, oldX8_3]) | (simp (disch := omega) only [upK_ne, upK_self, hK, upK_ne, oldX1, oldX0, oldX2, oldX7, oldX9, oldX5, oldX8_3])) ?_
  replace f := f.putR (q := q) (k := 0) (v := t + 1) (by omega)
  refine a_l0 rfl rfl rfl ?_
  refine a_l1 rfl rfl rfl ?_
  refine a_puti rfl pfX8_18_6 (by first | assumption | (simp (disch := omega) only [upK_self, hK, upK_ne, oldX1, oldX0, oldX2, oldX7, oldX9, oldX5, oldX8_3]) | (simp (disch := omega) only [upK_ne, upK_self, hK, upK_ne, oldX1, oldX0, oldX2, oldX7, oldX9, oldX5, oldX8_3])) ?_
  replace f := f.putI (q := q) (k := 1) (v := n) (by omega)
  exact a_vret rfl rfl ⟨rfl, rfl⟩
def kX6 (K : Nat → Nat × Nat) (t : Nat) : Nat → Nat × Nat := kX5 (upK (kX8_6 K t) (t + 5) (1, 5)) (t + 6)
def iX6 (I : Nat → Nat → Int32) (q : Nat) (t : Nat) : Nat → Nat → Int32 := iX5 (iX8_6 I q t 14) (t + 5) (t + 6)
def rX6 (R : Nat → Nat → Nat) (q : Nat) (t : Nat) : Nat → Nat → Nat := up2 (rX5 (rX8_6 R q t) (t + 5) (t + 6)) q 2 (t + 5 + 1)
theorem oldX6 {K : Nat → Nat × Nat} {t p : Nat} (h : p < t) : kX6 K t p = K p := by
  unfold kX6
  simp (disch := omega) only [upK_ne, oldX1, oldX0, oldX2, oldX7, oldX9, oldX5, oldX8_3, oldX8_6]
theorem rowX6 {R : Nat → Nat → Nat} {q t p : Nat} (h : p ≠ q) (h1 : p < t) : rX6 R q t p = R p := by
  unfold rX6
  simp (disch := omega) only [up2_row, rowX1, rowX0, rowX2, rowX7, rowX9, rowX5, rowX8_3, rowX8_6]
theorem frX6 {I : Nat → Nat → Int32} {L : Nat → Nat → Int64} {R : Nat → Nat → Nat} {q t : Nat} (f : Fr I L R t) (hq : q < t) : Fr (iX6 I q t) L (rX6 R q t) (t + 16) := by
  unfold iX6 rX6
  exact ((frX5 (Fr.mono (t' := t + 6) (frX8_6 f (by omega)) (Nat.le_succ _)) (by omega)).putR (by omega))
theorem sp_X6_init {S : aS} {K : Nat → Nat × Nat} {I : Nat → Nat → Int32} {L : Nat → Nat → Int64} {R : Nat → Nat → Nat} {q t : Nat} (hK : K q = (1, 6)) (hq : q < t) (ht : 200 ≤ t) (f : Fr I L R t) : SpM S m_X6_init 14 16 1959 [.ref q] (K, I, L, R, t) (kX6 K t, iX6 I q t, L, rX6 R q t, t + 16) := by
  refine SpM_of ok_X6_init rfl rfl ?_
  refine a_l0 rfl rfl rfl ?_
  refine a_s rfl rfl ?_
  refine a_mI rfl lX6_5 mo_X8_init (sp_X8_6_init (n := 14) (by first | assumption | (simp (disch := omega) only [upK_self, hK, upK_ne, oldX1, oldX0, oldX2, oldX7, oldX9, oldX5, oldX8_3, oldX8_6]) | (simp (disch := omega) only [upK_ne, upK_self, hK, upK_ne, oldX1, oldX0, oldX2, oldX7, oldX9, oldX5, oldX8_3, oldX8_6])) (by omega) (by omega) f) rfl rfl rfl rfl ?_
  replace f := frX8_6 (q := q) (n := 14) f (by omega)
  refine a_l0 rfl rfl rfl ?_
  refine a_new rfl nX6_11 (Nat.ble_eq_true_of_le (by omega)) rfl rfl f.i f.r ?_
  replace f := f.mono (t' := t + 6) (Nat.le_succ _)
  refine a_s rfl rfl ?_
  refine a_mIN rfl lX6_13 mo_X5_init (sp_X5_init (by first | assumption | (simp (disch := omega) only [upK_self, hK, upK_ne, oldX1, oldX0, oldX2, oldX7, oldX9, oldX5, oldX8_3, oldX8_6]) | (simp (disch := omega) only [upK_ne, upK_self, hK, upK_ne, oldX1, oldX0, oldX2, oldX7, oldX9, oldX5, oldX8_3, oldX8_6])) (by omega) (by omega) f) rfl rfl rfl rfl ?_
  replace f := frX5 (q := t + 5) f (by omega)
  refine a_putq rfl pfX6_16_6 (by first | assumption | (simp (disch := omega) only [upK_self, hK, upK_ne, oldX1, oldX0, oldX2, oldX7, oldX9, oldX5, oldX8_3, oldX8_6]) | (simp (disch := omega) only [upK_ne, upK_self, hK, upK_ne, oldX1, oldX0, oldX2, oldX7, oldX9, oldX5, oldX8_3, oldX8_6])) ?_
  replace f := f.putR (q := q) (k := 2) (v := t + 5 + 1) (by omega)
  exact a_vret rfl rfl ⟨rfl, rfl⟩
def kX3 (K : Nat → Nat × Nat) (t : Nat) : Nat → Nat × Nat := upK (kX2 (upK (kX8_3 K t) (t + 5) (1, 2)) (t + 6)) (t + 13) (2, 32)
def iX3 (I : Nat → Nat → Int32) (q : Nat) (t : Nat) : Nat → Nat → Int32 := iX2 (iX8_3 I q t 12) (t + 5) (t + 6)
def rX3 (R : Nat → Nat → Nat) (q : Nat) (t : Nat) : Nat → Nat → Nat := up2 (up2 (rX2 (rX8_3 R q t) (t + 5) (t + 6)) q 2 (t + 5 + 1)) q 3 (t + 13 + 1)
theorem oldX3 {K : Nat → Nat × Nat} {t p : Nat} (h : p < t) : kX3 K t p = K p := by
  unfold kX3
  simp (disch := omega) only [upK_ne, oldX1, oldX0, oldX2, oldX7, oldX9, oldX5, oldX8_3, oldX8_6, oldX6]
theorem rowX3 {R : Nat → Nat → Nat} {q t p : Nat} (h : p ≠ q) (h1 : p < t) : rX3 R q t p = R p := by
  unfold rX3
  simp (disch := omega) only [up2_row, rowX1, rowX0, rowX2, rowX7, rowX9, rowX5, rowX8_3, rowX8_6, rowX6]
theorem frX3 {I : Nat → Nat → Int32} {L : Nat → Nat → Int64} {R : Nat → Nat → Nat} {q t : Nat} (f : Fr I L R t) (hq : q < t) : Fr (iX3 I q t) L (rX3 R q t) (t + 14) := by
  unfold iX3 rX3
  exact ((Fr.mono (t' := t + 14) ((frX2 (Fr.mono (t' := t + 6) (frX8_3 f (by omega)) (Nat.le_succ _)) (by omega)).putR (by omega)) (Nat.le_succ _)).putR (by omega))
theorem sp_X3_init {S : aS} {K : Nat → Nat × Nat} {I : Nat → Nat → Int32} {L : Nat → Nat → Int64} {R : Nat → Nat → Nat} {q t : Nat} (hK : K q = (1, 3)) (hq : q < t) (ht : 200 ≤ t) (f : Fr I L R t) : SpM S m_X3_init 14 14 2144 [.ref q] (K, I, L, R, t) (kX3 K t, iX3 I q t, L, rX3 R q t, t + 14) := by
  refine SpM_of ok_X3_init rfl rfl ?_
  refine a_l0 rfl rfl rfl ?_
  refine a_s rfl rfl ?_
  refine a_mI rfl lX3_5 mo_X8_init (sp_X8_3_init (n := 12) (by first | assumption | (simp (disch := omega) only [upK_self, hK, upK_ne, oldX1, oldX0, oldX2, oldX7, oldX9, oldX5, oldX8_3, oldX8_6, oldX6]) | (simp (disch := omega) only [upK_ne, upK_self, hK, upK_ne, oldX1, oldX0, oldX2, oldX7, oldX9, oldX5, oldX8_3, oldX8_6, oldX6])) (by omega) (by omega) f) rfl rfl rfl rfl ?_
  replace f := frX8_3 (q := q) (n := 12) f (by omega)
  refine a_l0 rfl rfl rfl ?_
  refine a_new rfl nX3_1 (Nat.ble_eq_true_of_le (by omega)) rfl rfl f.i f.r ?_
  replace f := f.mono (t' := t + 6) (Nat.le_succ _)
  refine a_s rfl rfl ?_
  refine a_mIN rfl lX3_11 mo_X2_init (sp_X2_init (by first | assumption | (simp (disch := omega) only [upK_self, hK, upK_ne, oldX1, oldX0, oldX2, oldX7, oldX9, oldX5, oldX8_3, oldX8_6, oldX6]) | (simp (disch := omega) only [upK_ne, upK_self, hK, upK_ne, oldX1, oldX0, oldX2, oldX7, oldX9, oldX5, oldX8_3, oldX8_6, oldX6])) (by omega) (by omega) f) rfl rfl rfl rfl ?_
  replace f := frX2 (q := t + 5) f (by omega)
  refine a_putq rfl pfX3_14_3 (by first | assumption | (simp (disch := omega) only [upK_self, hK, upK_ne, oldX1, oldX0, oldX2, oldX7, oldX9, oldX5, oldX8_3, oldX8_6, oldX6]) | (simp (disch := omega) only [upK_ne, upK_self, hK, upK_ne, oldX1, oldX0, oldX2, oldX7, oldX9, oldX5, oldX8_3, oldX8_6, oldX6])) ?_
  replace f := f.putR (q := q) (k := 2) (v := t + 5 + 1) (by omega)
  refine a_l0 rfl rfl rfl ?_
  refine a_s rfl rfl ?_
  refine a_newarr (N := 32) (tg := 0) rfl rfl rfl ar_int (by decide) (by decide) rfl (Nat.ble_eq_true_of_le (by omega)) rfl rfl f.i f.l ?_
  replace f := f.mono (t' := t + 14) (Nat.le_succ _)
  refine a_putq rfl pfX3_20_3 (by first | assumption | (simp (disch := omega) only [upK_self, hK, upK_ne, oldX1, oldX0, oldX2, oldX7, oldX9, oldX5, oldX8_3, oldX8_6, oldX6]) | (simp (disch := omega) only [upK_ne, upK_self, hK, upK_ne, oldX1, oldX0, oldX2, oldX7, oldX9, oldX5, oldX8_3, oldX8_6, oldX6])) ?_
  replace f := f.putR (q := q) (k := 3) (v := t + 13 + 1) (by omega)
  exact a_vret rfl rfl ⟨rfl, rfl⟩
