/-! ===== the small helpers of the class ===== -/
def atF (f : Nat → Int32) (n : Nat) (i : Int32) : Int32 := if i < 0 then -1 else if nI n ≤ i then -1 else f i.toNatClampNeg
def setF (I : Nat → Nat → Int32) (p n : Nat) (i v : Int32) : Nat → Nat → Int32 := if i < 0 then I else if nI n ≤ i then I else up2 I p i.toNatClampNeg v
def bitF (i : Int32) : Int32 := if i < 0 then 0 else if 31 ≤ i then 0 else (1 : Int32) <<< (i &&& 31)
def hasF (s i : Int32) : Bool := decide (¬ (s &&& bitF i) = 0)
def bI (b : Bool) : Int32 := if b then 1 else 0
theorem bI_nar (b : Bool) : narrow .boolean (.int (bI b)) = .int (bI b) := by cases b <;> rfl
theorem K0_small : ∀ p, (K0 p).2 < 5000 := by
  have h : ∀ q ∈ KL, q.2 < 5000 := by decide +kernel
  have h2 : ∀ (l : List (Nat × Nat)) (n : Nat), (∀ q ∈ l, q.2 < 5000) → (nthK l n).2 < 5000 := by
    intro l
    induction l with
    | nil => intro n _; simp [nthK]
    | cons a r ih =>
      intro n hl
      cases n with
      | zero => exact hl a List.mem_cons_self
      | succ n => exact ih n fun q hq => hl q (List.mem_cons_of_mem _ hq)
  intro p
  unfold K0
  split
  · exact h2 _ _ h
  · simp
theorem K0_lt {p t n : Nat} (h : K0 p = (t, n)) : n < 2 ^ 31 := by
  have := K0_small p
  rw [h] at this
  omega
theorem inI_of {i : Int32} {n : Nat} (hn : n < 2 ^ 31) (h0 : ¬ i < 0) (h1 : ¬ nI n ≤ i) : inI i n := by
  refine ⟨h0, ?_⟩
  have e0 : ¬ i.toInt < 0 := by rwa [Int32.lt_iff_toInt_lt, Int32.toInt_zero] at h0
  rw [Int32.le_iff_toInt_le, nI_toInt hn] at h1
  show i.toInt.toNat < n
  omega
theorem inI_nI {i n : Nat} (h : i < n) (hn : n < 2 ^ 31) : inI (nI i) n := ⟨nI_pos (by omega), by rw [nI_clamp (by omega)]; exact h⟩
theorem atF_nI {f : Nat → Int32} {n i : Nat} (h : i < n) (hn : n < 2 ^ 31) : atF f n (nI i) = f i := by
  unfold atF
  rw [if_neg (nI_pos (by omega)), if_neg (nI_ge h hn), nI_clamp (by omega)]
theorem setF_nI {I : Nat → Nat → Int32} {p n i : Nat} {v : Int32} (h : i < n) (hn : n < 2 ^ 31) : setF I p n (nI i) v = up2 I p i v := by
  unfold setF
  rw [if_neg (nI_pos (by omega)), if_neg (nI_ge h hn), nI_clamp (by omega)]
set_option maxRecDepth 100000
theorem sp_X11_at {S : aS} {I : Nat → Nat → Int32} {L : Nat → Nat → Int64} {w1 w2 t : Nat} {row n : Nat} {i : Int32} (hK : K0 row = (2, n)) : SpE S m_X11_at 12 [.ref row, .int i] (hp I L w1 w2 t) (some (.int (atF (I row) n i))) (hp I L w1 w2 t) := by
  refine SpE_of ok_X11_at rfl rfl ?_
  show AW S m_X11_at 12 _ _ 0 0 0 [some (.ref row), some (.int i)] [] (hp I L w1 w2 t)
  refine a_l1 rfl rfl rfl ?_
  refine a_if_lt rfl (fun c1 => ?_) (fun c1 => ?_)
  · refine a_s rfl rfl ?_
    refine a_iret rfl rfl ⟨by simp [atF, *], rfl⟩
  · refine a_l1 rfl rfl rfl ?_
    refine a_l0 rfl rfl rfl ?_
    refine a_len rfl hK rfl rfl ?_
    refine a_ic_ge rfl (fun c7 => ?_) (fun c7 => ?_)
    · refine a_s rfl rfl ?_
      refine a_iret rfl rfl ⟨by simp [atF, *], rfl⟩
    · refine a_l0 rfl rfl rfl ?_
      refine a_l1 rfl rfl rfl ?_
      refine a_iald rfl hK (inI_of (K0_lt hK) c1 c7) ?_
      refine a_goto rfl ?_
      refine a_iret rfl rfl ⟨by simp [atF, *], rfl⟩
theorem sp_X11_setAt {S : aS} {I : Nat → Nat → Int32} {L : Nat → Nat → Int64} {w1 w2 t : Nat} {row n : Nat} {i v : Int32} (hK : K0 row = (2, n)) : SpE S m_X11_setAt 12 [.ref row, .int i, .int v] (hp I L w1 w2 t) none (hp (setF I row n i v) L w1 w2 t) := by
  refine SpE_of ok_X11_setAt rfl rfl ?_
  show AW S m_X11_setAt 12 _ _ 0 0 0 [some (.ref row), some (.int i), some (.int v)] [] (hp I L w1 w2 t)
  refine a_l1 rfl rfl rfl ?_
  refine a_if_lt rfl (fun c1 => ?_) (fun c1 => ?_)
  · refine a_vret rfl rfl ⟨rfl, by simp [setF, *]⟩
  · refine a_l1 rfl rfl rfl ?_
    refine a_l0 rfl rfl rfl ?_
    refine a_len rfl hK rfl rfl ?_
    refine a_ic_ge rfl (fun c7 => ?_) (fun c7 => ?_)
    · refine a_vret rfl rfl ⟨rfl, by simp [setF, *]⟩
    · refine a_l0 rfl rfl rfl ?_
      refine a_l1 rfl rfl rfl ?_
      refine a_l2 rfl rfl rfl ?_
      refine a_iast rfl hK (inI_of (K0_lt hK) c1 c7) ?_
      refine a_vret rfl rfl ⟨rfl, by simp [setF, *]⟩
theorem sp_X11_bit {S : aS} {h : aH} {i : Int32} : SpE S m_X11_bit 12 [.int i] (h) (some (.int (bitF i))) (h) := by
  refine SpE_of ok_X11_bit rfl rfl ?_
  show AW S m_X11_bit 12 _ _ 0 0 0 [some (.int i)] [] (h)
  refine a_l0 rfl rfl rfl ?_
  refine a_if_lt rfl (fun c1 => ?_) (fun c1 => ?_)
  · refine a_s rfl rfl ?_
    refine a_iret rfl rfl ⟨by simp [bitF, *], rfl⟩
  · refine a_l0 rfl rfl rfl ?_
    refine a_s rfl rfl ?_
    refine a_ic_ge rfl (fun c7 => ?_) (fun c7 => ?_)
    · refine a_s rfl rfl ?_
      refine a_iret rfl rfl ⟨by simp [bitF, *], rfl⟩
    · refine a_s rfl rfl ?_
      refine a_l0 rfl rfl rfl ?_
      refine a_s rfl rfl ?_
      refine a_goto rfl ?_
      refine a_iret rfl rfl ⟨by simp [bitF, *], rfl⟩
theorem sp_X11_has {S : aS} {h : aH} {s i : Int32} : SpE S m_X11_has 13 [.int s, .int i] (h) (some (.int (bI (hasF s i)))) (h) := by
  refine SpE_of ok_X11_has rfl rfl ?_
  show AW S m_X11_has 13 _ _ 0 0 0 [some (.int s), some (.int i)] [] (h)
  refine a_l0 rfl rfl rfl ?_
  refine a_l1 rfl rfl rfl ?_
  refine a_eS1 rfl lX11_319 mo_X11_bit (sp_X11_bit) rfl rfl rfl rfl ?_
  refine a_s rfl rfl ?_
  refine a_if_eq rfl (fun c6 => ?_) (fun c6 => ?_)
  · refine a_s rfl rfl ?_
    refine a_zret rfl rfl rfl ⟨by simp [hasF, bI, *], rfl⟩
  · refine a_s rfl rfl ?_
    refine a_goto rfl ?_
    refine a_zret rfl rfl rfl ⟨by simp [hasF, bI, *], rfl⟩
