/-! ===== the class's tokens: what is at hand, and taking it ===== -/
section T79c
variable {S : aS} {I : Nat → Nat → Int32} {L : Nat → Nat → Int64} {w1 w2 t : Nat} {e b : Nat} {T : Nat → Int32}
set_option maxRecDepth 100000
theorem wr_of (h1 : kd T e b = 1) (h2 : wd T e b < 27) : wrF T e b = 100 + wd T e b + 1 := if_pos ⟨h1, h2⟩
theorem wr_no (h : ¬ (kd T e b = 1 ∧ wd T e b < 27)) : wrF T e b = 0 := if_neg h
theorem wr_wk : WK (wrF T e b) := by
  by_cases c : kd T e b = 1 ∧ wd T e b < 27
  · rw [wr_of c.1 c.2]
    exact WK.con c.2
  · rw [wr_no c]
    exact WK.nul
theorem wr_is {k : Nat} (hk : k < 27) : wrF T e b = 100 + k + 1 ↔ isWd T e b k = true := by
  unfold isWd
  by_cases c : kd T e b = 1 ∧ wd T e b < 27
  · rw [wr_of c.1 c.2]
    exact ⟨fun z => decide_eq_true ⟨c.1, by omega⟩, fun z => by have := (of_decide_eq_true z).2; omega⟩
  · rw [wr_no c]
    exact ⟨fun z => by omega, fun z => absurd ⟨(of_decide_eq_true z).1, by have := (of_decide_eq_true z).2; omega⟩ c⟩
theorem At.wk {w : Nat} (h : At T e b w I) : WK w := by
  rw [At.wo h]
  exact wr_wk
theorem g_next (hw : WdS S) (h : At T e b w2 I) : Sp S m_X9_next 13 0 0 [.ref 221] (hp I L w1 w2 t) (fun v h' => v = none ∧ ∃ J w, h' = hp J L w1 w t ∧ At T e (nx T e b) w J ∧ ∀ q, q ≠ 221 → J q = I q) nX := by
  obtain ⟨⟨n, j, hT, hj, h5, rfl⟩, -⟩ := h
  have hn := hT.1
  by_cases c : j + 1 ≤ n
  · exact f_next (i := j + 1) (j := j + 1) hw hT (by rw [h5, ← nI_succ]) (if_pos c).symm (by omega)
  · obtain rfl : j = n := by omega
    have e1 : nx T e (bg T e j) = bg T e j := nx_e hT.2.1
    rw [e1]
    exact f_next (i := j + 1) (j := j) hw hT (by rw [h5, ← nI_succ]) (if_neg c).symm (by omega)
theorem f_isEnd (h : At T e b w2 I) : SpE S m_X9_isEnd 12 [.ref 221] (hp I L w1 w2 t) (some (.int (bI (decide (¬ b < e))))) (hp I L w1 w2 t) := by
  refine SpE_of ok_X9_isEnd rfl rfl ?_
  show AW S m_X9_isEnd 12 _ _ 0 0 0 [some (.ref 221)] [] (hp I L w1 w2 t)
  refine a_l0 rfl rfl rfl ?_
  refine a_getiv (v := nI (kd T e b)) rfl gfX9_97_9 rfl (At.ki h) ?_
  have k4 := kd_4 (T := T) (e := e) (b := b) rfl
  refine a_if_ne rfl (fun c => ?_) (fun c => ?_)
  · refine a_s rfl rfl ?_
    refine a_zret rfl rfl rfl ⟨?_, rfl⟩
    rw [show decide (¬ b < e) = false from decide_eq_false fun z => c (by rw [kd_ge z]; rfl)]
    rfl
  · refine a_s rfl rfl ?_
    refine a_goto rfl ?_
    refine a_zret rfl rfl rfl ⟨?_, rfl⟩
    rw [show decide (¬ b < e) = true from decide_eq_true (kd_0 ((nI_eq0 (by omega)).mp c))]
    rfl
theorem f_isSign (h : At T e b w2 I) {x : Int32} : SpE S m_X9_isSign 12 [.ref 221, .int x] (hp I L w1 w2 t) (some (.int (bI (sg T e b x)))) (hp I L w1 w2 t) := by
  refine SpE_of ok_X9_isSign rfl rfl ?_
  show AW S m_X9_isSign 12 _ _ 0 0 0 [some (.ref 221), some (.int x)] [] (hp I L w1 w2 t)
  have k4 := kd_4 (T := T) (e := e) (b := b) rfl
  refine a_l0 rfl rfl rfl ?_
  refine a_getiv (v := nI (kd T e b)) rfl gfX9_97_9 rfl (At.ki h) ?_
  refine a_s rfl rfl ?_
  refine a_ic_ne rfl (fun c => ?_) (fun c => ?_)
  · refine a_s rfl rfl ?_
    refine a_zret rfl rfl rfl ⟨?_, rfl⟩
    rw [show sg T e b x = false from decide_eq_false fun z => c (congrArg nI z.1)]
    rfl
  have c := nI_inj (b := 3) (by omega) (by decide) c
  refine a_l0 rfl rfl rfl ?_
  refine a_getiv (v := vl T e b) rfl gfX9_103_9 rfl (At.va h) ?_
  refine a_l1 rfl rfl rfl ?_
  refine a_ic_ne rfl (fun c2 => ?_) (fun c2 => ?_)
  · refine a_s rfl rfl ?_
    refine a_zret rfl rfl rfl ⟨?_, rfl⟩
    rw [show sg T e b x = false from decide_eq_false fun z => c2 z.2]
    rfl
  · refine a_s rfl rfl ?_
    refine a_goto rfl ?_
    refine a_zret rfl rfl rfl ⟨?_, rfl⟩
    rw [show sg T e b x = true from decide_eq_true ⟨c, c2⟩]
    rfl
/-- taken, if it is that: what is at hand then -/
def Tk (T : Nat → Int32) (e b : Nat) (z : Bool) (I : Nat → Nat → Int32) (L : Nat → Nat → Int64) (w1 t : Nat) : Option Value → aH → Prop := fun v h' => v = some (.int (bI z)) ∧ ∃ J w, h' = hp J L w1 w t ∧ At T e (if z = true then nx T e b else b) w J ∧ ∀ q, q ≠ 221 → J q = I q
theorem f_takeSign (hw : WdS S) (h : At T e b w2 I) {x : Int32} : Sp S m_X9_takeSign 14 0 0 [.ref 221, .int x] (hp I L w1 w2 t) (Tk T e b (sg T e b x) I L w1 t) nX := by
  refine Sp_of ok_X9_takeSign rfl rfl ?_
  show AW S m_X9_takeSign 14 _ _ 0 0 0 [some (.ref 221), some (.int x), none] [] (hp I L w1 w2 t)
  refine a_l0 rfl rfl rfl ?_
  refine a_l1 rfl rfl rfl ?_
  refine a_eV1 rfl lX9_110 mo_X9_isSign (f_isSign h) rfl rfl rfl ⟨9, _, rfl, rfl, rfl⟩ rfl ?_
  refine a_s2 rfl rfl rfl rfl rfl rfl ?_
  refine a_l2 rfl rfl rfl ?_
  cases c : sg T e b x with
  | false =>
    refine a_if_eq rfl (fun _ => ?_) (fun z => absurd rfl z)
    refine a_l2 rfl rfl rfl ?_
    exact a_zret rfl rfl rfl ⟨rfl, I, w2, rfl, h, fun _ _ => rfl⟩
  | true =>
    refine a_if_eq rfl (fun z => absurd z (by decide)) (fun _ => ?_)
    refine a_l0 rfl rfl rfl ?_
    refine a_gV rfl lX9_55 mo_X9_next (g_next hw h) rfl rfl rfl ⟨9, _, rfl, rfl, rfl⟩ rfl (fun v' h' hv => ?_)
    obtain ⟨rfl, J, w, rfl, hA, hf⟩ := hv
    refine a_l2 rfl rfl rfl ?_
    exact a_zret rfl rfl rfl ⟨rfl, J, w, rfl, hA, hf⟩
theorem f_takeWord (hw : WdS S) (h : At T e b w2 I) {k : Nat} (hk : k < 27) : Sp S m_X9_takeWord 14 0 0 [.ref 221, .ref (100 + k)] (hp I L w1 w2 t) (Tk T e b (isWd T e b k) I L w1 t) nX := by
  refine Sp_of ok_X9_takeWord rfl rfl ?_
  show AW S m_X9_takeWord 14 _ _ 0 0 0 [some (.ref 221), some (.ref (100 + k)), none] [] (hp I L w1 w2 t)
  refine a_l0 rfl rfl rfl ?_
  refine a_getr rfl gfX9_106_9 rfl ?_
  refine a_pop1 (show _ = rv w2 :: _ from rfl) ?_
  refine a_l1 rfl rfl rfl ?_
  refine a_acmp_ne (rx := w2) (ry := 100 + k + 1) rfl ((At.wk h).ac hw) (WK.ck hw hk) (fun c => ?_) (fun c => ?_)
  · have c3 : isWd T e b k = false := Bool.eq_false_iff.mpr fun z => c ((At.wo h).trans ((wr_is hk).mpr z))
    refine a_s rfl rfl ?_
    refine a_s2 rfl rfl rfl rfl rfl rfl ?_
    refine a_l2 rfl rfl rfl ?_
    refine a_if_eq rfl (fun _ => ?_) (fun z => absurd rfl z)
    refine a_l2 rfl rfl rfl ?_
    exact a_zret rfl rfl rfl ⟨by rw [c3]; rfl, I, w2, rfl, by rw [c3]; exact h, fun _ _ => rfl⟩
  · have c3 : isWd T e b k = true := (wr_is hk).mp ((At.wo h).symm.trans c)
    refine a_s rfl rfl ?_
    refine a_goto rfl ?_
    refine a_s2 rfl rfl rfl rfl rfl rfl ?_
    refine a_l2 rfl rfl rfl ?_
    refine a_if_eq rfl (fun z => absurd z (by decide)) (fun _ => ?_)
    refine a_l0 rfl rfl rfl ?_
    refine a_gV rfl lX9_55 mo_X9_next (g_next hw h) rfl rfl rfl ⟨9, _, rfl, rfl, rfl⟩ rfl (fun v' h' hv => ?_)
    obtain ⟨rfl, J, w, rfl, hA, hf⟩ := hv
    refine a_l2 rfl rfl rfl ?_
    exact a_zret rfl rfl rfl ⟨by rw [c3]; rfl, J, w, rfl, by rw [c3]; exact hA, hf⟩
theorem f_takeNumber (hw : WdS S) (h : At T e b w2 I) {lo hi : Int32} (h0 : 0 ≤ lo) : Sp S m_X9_takeNumber 14 0 0 [.ref 221, .int lo, .int hi] (hp I L w1 w2 t) (fun v h' => v = some (.int (nm T e b lo hi)) ∧ ∃ J w, h' = hp J L w1 w t ∧ At T e (if nm T e b lo hi = -1 then b else nx T e b) w J ∧ ∀ q, q ≠ 221 → J q = I q) nX := by
  refine Sp_of ok_X9_takeNumber rfl rfl ?_
  show AW S m_X9_takeNumber 14 _ _ 0 0 0 [some (.ref 221), some (.int lo), some (.int hi), none] [] (hp I L w1 w2 t)
  have k4 := kd_4 (T := T) (e := e) (b := b) rfl
  have no : nm T e b lo hi = -1 → AW S m_X9_takeNumber 14 (fun v h' => v = some (.int (nm T e b lo hi)) ∧ ∃ J w, h' = hp J L w1 w t ∧ At T e (if nm T e b lo hi = -1 then b else nx T e b) w J ∧ ∀ q, q ≠ 221 → J q = I q) nX 0 0 23 [some (.ref 221), some (.int lo), some (.int hi), some (.int (vl T e b))] [] (hp I L w1 w2 t) := by
    intro hn
    refine a_s rfl rfl ?_
    exact a_iret rfl rfl ⟨by rw [hn], I, w2, rfl, by rw [if_pos hn]; exact h, fun _ _ => rfl⟩
  refine a_l0 rfl rfl rfl ?_
  refine a_getiv (v := vl T e b) rfl gfX9_103_9 rfl (At.va h) ?_
  refine a_s3 rfl rfl rfl rfl rfl rfl ?_
  refine a_l0 rfl rfl rfl ?_
  refine a_getiv (v := nI (kd T e b)) rfl gfX9_97_9 rfl (At.ki h) ?_
  refine a_s rfl rfl ?_
  refine a_ic_ne rfl (fun c => no (if_neg fun z => c (congrArg nI z.1))) (fun c => ?_)
  have c := nI_inj (b := 2) (by omega) (by decide) c
  refine a_l3 rfl rfl rfl ?_
  refine a_l1 rfl rfl rfl ?_
  refine a_ic_lt rfl (fun c2 => no (if_neg fun z => absurd c2 (Int32.not_lt.mpr z.2.1))) (fun c2 => ?_)
  refine a_l3 rfl rfl rfl ?_
  refine a_l2 rfl rfl rfl ?_
  refine a_ic_le rfl (fun c3 => ?_) (fun c3 => no (if_neg fun z => c3 z.2.2))
  have c2 := Int32.not_lt.mp c2
  have hn : nm T e b lo hi = vl T e b := if_pos ⟨c, c2, c3⟩
  have hne : ¬ nm T e b lo hi = -1 := fun z => by
    rw [hn] at z
    rw [z] at c2
    exact absurd (Int32.le_trans h0 c2) (by decide)
  refine a_l0 rfl rfl rfl ?_
  refine a_gV rfl lX9_55 mo_X9_next (g_next hw h) rfl rfl rfl ⟨9, _, rfl, rfl, rfl⟩ rfl (fun v' h' hv => ?_)
  obtain ⟨rfl, J, w, rfl, hA, hf⟩ := hv
  refine a_l3 rfl rfl rfl ?_
  exact a_iret rfl rfl ⟨by rw [hn], J, w, rfl, by rw [if_neg hne]; exact hA, hf⟩
end T79c
