/-! ===== the reference: what is read off its world ===== -/
abbrev vd (W : Nat → Int32) (k d : Nat) : Int32 := W (23 + 6 * d + k)
abbrev vp (W : Nat → Int32) (k p : Nat) : Int32 := W (11 + 2 * p + k)
theorem nI_addl (a j : Nat) : nI a + nI j = nI (a + j) := by
  induction j with
  | zero => rw [nI_0, Int32.add_zero]; rfl
  | succ j ih => rw [nI_succ, ← Int32.add_assoc, ih, ← nI_succ]; rfl
theorem nI_mul (a j : Nat) : nI a * nI j = nI (a * j) := by
  induction j with
  | zero => rw [nI_0, Int32.mul_zero, Nat.mul_zero, nI_0]
  | succ j ih => rw [nI_succ, Int32.mul_add, ih, Int32.mul_one, nI_addl, Nat.mul_succ]
theorem nI_inj {a b : Nat} (ha : a < 2 ^ 31) (hb : b < 2 ^ 31) (h : nI a = nI b) : a = b := by
  have h2 := congrArg Int32.toInt h
  rw [nI_toInt ha, nI_toInt hb] at h2
  omega
theorem idxD (d k : Nat) : (23 : Int32) + 6 * nI d + nI k = nI (23 + 6 * d + k) := by
  rw [show (6 : Int32) = nI 6 from rfl, show (23 : Int32) = nI 23 from rfl, nI_mul, nI_addl, nI_addl]
theorem idxP (d k : Nat) : (11 : Int32) + 2 * nI d + nI k = nI (11 + 2 * d + k) := by
  rw [show (2 : Int32) = nI 2 from rfl, show (11 : Int32) = nI 11 from rfl, nI_mul, nI_addl, nI_addl]
theorem bit_lt {d : Nat} (h : d < 31) : (1 : Int32) <<< (nI d &&& 31) = bitF (nI d) := by
  unfold bitF
  rw [if_neg (nI_pos (by omega)), if_neg (show ¬ 31 ≤ nI d from nI_ge (b := 31) h (by omega))]
theorem and1 (x : Int32) : x &&& 1 = 0 ∨ x &&& 1 = 1 := by
  obtain ⟨n, hn, e⟩ : ∃ n : Nat, n < 2 ∧ x &&& 1 = nI n := by
    refine ⟨(x &&& 1).toBitVec.toNat, ?_, ?_⟩
    · have h : (x &&& 1).toBitVec.toNat = x.toBitVec.toNat &&& 1 := by
        rw [Int32.toBitVec_and, BitVec.toNat_and]
        rfl
      rw [h]
      exact Nat.lt_succ_of_le Nat.and_le_right
    · apply Int32.toBitVec_inj.mp
      show _ = (Int32.ofNat _).toBitVec
      rw [Int32.toBitVec_ofNat', BitVec.ofNat_toNat, BitVec.setWidth_eq]
  rw [e]
  rcases n with _ | _ | n
  · exact Or.inl rfl
  · exact Or.inr rfl
  · omega
theorem nI_ltu {n j : Nat} (h : n < j) (hj : j < 2 ^ 31) : nI n < nI j := Int32.lt_iff_toInt_lt.mpr (by rw [nI_toInt (by omega), nI_toInt hj]; omega)
theorem nI_nlu {n j : Nat} (h : j ≤ n) (hn : n < 2 ^ 31) : ¬ nI n < nI j := fun z => by
  have := Int32.lt_iff_toInt_lt.mp z
  rw [nI_toInt hn, nI_toInt (by omega)] at this
  omega
theorem nI_dec (n : Nat) : nI (n + 1) - 1 = nI n := by rw [nI_succ, Int32.add_sub_cancel]
theorem nI_decm (n : Nat) : nI (n + 1) + -1 = nI n := by rw [← Int32.sub_eq_add_neg, nI_dec]
theorem nI_lt_of {a b : Nat} (h : ¬ nI b ≤ nI a) (ha : a < 2 ^ 31) (hb : b < 2 ^ 31) : a < b := by
  rw [Int32.le_iff_toInt_le, nI_toInt ha, nI_toInt hb] at h
  omega
theorem nI_le_of {a b : Nat} (h : ¬ nI b < nI a) (ha : a < 2 ^ 31) (hb : b < 2 ^ 31) : a ≤ b := by
  rw [Int32.lt_iff_toInt_lt, nI_toInt ha, nI_toInt hb] at h
  omega
theorem nI_ge_of {a b : Nat} (h : nI b ≤ nI a) (ha : a < 2 ^ 31) (hb : b < 2 ^ 31) : b ≤ a := by
  rw [Int32.le_iff_toInt_le, nI_toInt ha, nI_toInt hb] at h
  omega
theorem bI_t {b : Bool} (h : ¬ bI b = 0) : b = true := by cases b <;> simp_all [bI]
theorem bI_f {b : Bool} (h : bI b = 0) : b = false := by cases b <;> simp_all [bI]
theorem cntF_t {n : Nat} {P : Nat → Bool} (h : P n = true) : cntF (n + 1) P = cntF n P + 1 := by simp [cntF, h]
theorem cntF_f {n : Nat} {P : Nat → Bool} (h : P n = false) : cntF (n + 1) P = cntF n P := by simp [cntF, h]
def lwF (W : Nat → Int32) (d : Nat) : Bool := decide (vd W 4 d = -1 ∨ vd W 5 (vd W 4 d).toNatClampNeg = 1)
def LeW (nd : Nat) (W : Nat → Int32) : Prop := ∀ d, d < nd → vd W 4 d = -1 ∨ ∃ e, e < nd ∧ vd W 4 d = nI e
set_option maxRecDepth 100000
theorem sp_X12_at {S : aS} {h : aH} {d k : Nat} : SpE S m_X12_at 12 [.int (nI d), .int (nI k)] (h) (some (.int (nI (23 + 6 * d + k)))) (h) := by
  refine SpE_of ok_X12_at rfl rfl ?_
  show AW S m_X12_at 12 _ _ 0 0 0 [some (.int (nI d)), some (.int (nI k))] [] (h)
  refine a_s rfl rfl ?_
  refine a_s rfl rfl ?_
  refine a_l0 rfl rfl rfl ?_
  refine a_s rfl rfl ?_
  refine a_s rfl rfl ?_
  refine a_l1 rfl rfl rfl ?_
  refine a_s rfl rfl ?_
  refine a_iret rfl rfl ⟨by rw [← idxD], rfl⟩
theorem sp_X12_personAt {S : aS} {h : aH} {d k : Nat} : SpE S m_X12_personAt 12 [.int (nI d), .int (nI k)] (h) (some (.int (nI (11 + 2 * d + k)))) (h) := by
  refine SpE_of ok_X12_personAt rfl rfl ?_
  show AW S m_X12_personAt 12 _ _ 0 0 0 [some (.int (nI d)), some (.int (nI k))] [] (h)
  refine a_s rfl rfl ?_
  refine a_s rfl rfl ?_
  refine a_l0 rfl rfl rfl ?_
  refine a_s rfl rfl ?_
  refine a_s rfl rfl ?_
  refine a_l1 rfl rfl rfl ?_
  refine a_s rfl rfl ?_
  refine a_iret rfl rfl ⟨by rw [← idxP], rfl⟩
theorem sp_X12_of {S : aS} {I : Nat → Nat → Int32} {L : Nat → Nat → Int64} {w1 w2 t : Nat} {d k : Nat} (hd : d < 12) (hk : k < 6) : SpE S m_X12_of 13 [.ref 420, .int (nI d), .int (nI k)] (hp I L w1 w2 t) (some (.int (vd (I 421) k d))) (hp I L w1 w2 t) := by
  refine SpE_of ok_X12_of rfl rfl ?_
  show AW S m_X12_of 13 _ _ 0 0 0 [some (.ref 420), some (.int (nI d)), some (.int (nI k))] [] (hp I L w1 w2 t)
  refine a_l0 rfl rfl rfl ?_
  refine a_getq rfl gfX12_13_12 rfl (rfl) ?_
  refine a_l1 rfl rfl rfl ?_
  refine a_l2 rfl rfl rfl ?_
  refine a_eS1 rfl lX12_60 mo_X12_at (sp_X12_at) rfl rfl rfl rfl ?_
  refine a_ialdv (v := vd (I 421) k d) rfl (n := 2033) rfl (inI_nI (by omega) (by omega)) (by rw [nI_clamp (by omega)]) ?_
  refine a_iret rfl rfl ⟨rfl, rfl⟩
theorem sp_X12_ofPerson {S : aS} {I : Nat → Nat → Int32} {L : Nat → Nat → Int64} {w1 w2 t : Nat} {d k : Nat} (hd : d < 6) (hk : k < 2) : SpE S m_X12_ofPerson 13 [.ref 420, .int (nI d), .int (nI k)] (hp I L w1 w2 t) (some (.int (vp (I 421) k d))) (hp I L w1 w2 t) := by
  refine SpE_of ok_X12_ofPerson rfl rfl ?_
  show AW S m_X12_ofPerson 13 _ _ 0 0 0 [some (.ref 420), some (.int (nI d)), some (.int (nI k))] [] (hp I L w1 w2 t)
  refine a_l0 rfl rfl rfl ?_
  refine a_getq rfl gfX12_13_12 rfl (rfl) ?_
  refine a_l1 rfl rfl rfl ?_
  refine a_l2 rfl rfl rfl ?_
  refine a_eS1 rfl lX12_56 mo_X12_personAt (sp_X12_personAt) rfl rfl rfl rfl ?_
  refine a_ialdv (v := vp (I 421) k d) rfl (n := 2033) rfl (inI_nI (by omega) (by omega)) (by rw [nI_clamp (by omega)]) ?_
  refine a_iret rfl rfl ⟨rfl, rfl⟩
theorem sp_X12_isWaiting {S : aS} {I : Nat → Nat → Int32} {L : Nat → Nat → Int64} {w1 w2 t : Nat} {d : Nat} (hd : d < 12) : SpE S m_X12_isWaiting 14 [.ref 420, .int (nI d)] (hp I L w1 w2 t) (some (.int (bI (decide (vd (I 421) 5 d = 0))))) (hp I L w1 w2 t) := by
  refine SpE_of ok_X12_isWaiting rfl rfl ?_
  show AW S m_X12_isWaiting 14 _ _ 0 0 0 [some (.ref 420), some (.int (nI d))] [] (hp I L w1 w2 t)
  refine a_l0 rfl rfl rfl ?_
  refine a_l1 rfl rfl rfl ?_
  refine a_s rfl rfl ?_
  refine a_eV1 rfl lX12_63 mo_X12_of (sp_X12_of (d := d) (k := 5) hd (by decide)) rfl rfl rfl ⟨12, _, rfl, rfl, rfl⟩ rfl ?_
  refine a_if_ne rfl (fun c6 => ?_) (fun c6 => ?_)
  · refine a_s rfl rfl ?_
    refine a_zret rfl rfl rfl ⟨by simp [bI, *], rfl⟩
  · refine a_s rfl rfl ?_
    refine a_goto rfl ?_
    refine a_zret rfl rfl rfl ⟨by simp [bI, *], rfl⟩
theorem sp_X12_isDone {S : aS} {I : Nat → Nat → Int32} {L : Nat → Nat → Int64} {w1 w2 t : Nat} {d : Nat} (hd : d < 12) : SpE S m_X12_isDone 14 [.ref 420, .int (nI d)] (hp I L w1 w2 t) (some (.int (bI (decide (vd (I 421) 5 d = 1))))) (hp I L w1 w2 t) := by
  refine SpE_of ok_X12_isDone rfl rfl ?_
  show AW S m_X12_isDone 14 _ _ 0 0 0 [some (.ref 420), some (.int (nI d))] [] (hp I L w1 w2 t)
  refine a_l0 rfl rfl rfl ?_
  refine a_l1 rfl rfl rfl ?_
  refine a_s rfl rfl ?_
  refine a_eV1 rfl lX12_63 mo_X12_of (sp_X12_of (d := d) (k := 5) hd (by decide)) rfl rfl rfl ⟨12, _, rfl, rfl, rfl⟩ rfl ?_
  refine a_s rfl rfl ?_
  refine a_ic_ne rfl (fun c7 => ?_) (fun c7 => ?_)
  · refine a_s rfl rfl ?_
    refine a_zret rfl rfl rfl ⟨by simp [bI, *], rfl⟩
  · refine a_s rfl rfl ?_
    refine a_goto rfl ?_
    refine a_zret rfl rfl rfl ⟨by simp [bI, *], rfl⟩
theorem sp_X12_isForgotten {S : aS} {I : Nat → Nat → Int32} {L : Nat → Nat → Int64} {w1 w2 t : Nat} {d : Nat} (hd : d < 12) : SpE S m_X12_isForgotten 14 [.ref 420, .int (nI d)] (hp I L w1 w2 t) (some (.int (bI (decide (vd (I 421) 5 d = 2))))) (hp I L w1 w2 t) := by
  refine SpE_of ok_X12_isForgotten rfl rfl ?_
  show AW S m_X12_isForgotten 14 _ _ 0 0 0 [some (.ref 420), some (.int (nI d))] [] (hp I L w1 w2 t)
  refine a_l0 rfl rfl rfl ?_
  refine a_l1 rfl rfl rfl ?_
  refine a_s rfl rfl ?_
  refine a_eV1 rfl lX12_63 mo_X12_of (sp_X12_of (d := d) (k := 5) hd (by decide)) rfl rfl rfl ⟨12, _, rfl, rfl, rfl⟩ rfl ?_
  refine a_s rfl rfl ?_
  refine a_ic_ne rfl (fun c7 => ?_) (fun c7 => ?_)
  · refine a_s rfl rfl ?_
    refine a_zret rfl rfl rfl ⟨by simp [bI, *], rfl⟩
  · refine a_s rfl rfl ?_
    refine a_goto rfl ?_
    refine a_zret rfl rfl rfl ⟨by simp [bI, *], rfl⟩
theorem sp_X12_has {S : aS} {h : aH} {s : Int32} {d : Nat} : SpE S m_X12_has 12 [.int s, .int (nI d)] (h) (some (.int (bI (shb s d)))) (h) := by
  refine SpE_of ok_X12_has rfl rfl ?_
  show AW S m_X12_has 12 _ _ 0 0 0 [some (.int s), some (.int (nI d))] [] (h)
  refine a_l0 rfl rfl rfl ?_
  refine a_l1 rfl rfl rfl ?_
  refine a_s rfl rfl ?_
  refine a_s rfl rfl ?_
  refine a_s rfl rfl ?_
  refine a_s rfl rfl ?_
  refine a_ic_ne rfl (fun c6 => ?_) (fun c6 => ?_)
  · refine a_s rfl rfl ?_
    refine a_zret rfl rfl rfl ⟨by rcases and1 (s >>> (nI d &&& 31)) with e | e <;> simp_all [shb, bI], rfl⟩
  · refine a_s rfl rfl ?_
    refine a_goto rfl ?_
    refine a_zret rfl rfl rfl ⟨by rcases and1 (s >>> (nI d &&& 31)) with e | e <;> simp_all [shb, bI], rfl⟩
theorem sp_X12_leansWell {S : aS} {I : Nat → Nat → Int32} {L : Nat → Nat → Int64} {w1 w2 t : Nat} {nd d : Nat} (hn : nd ≤ 12) (hd : d < nd) (hl : LeW nd (I 421)) : SpE S m_X12_leansWell 15 [.ref 420, .int (nI d)] (hp I L w1 w2 t) (some (.int (bI (lwF (I 421) d)))) (hp I L w1 w2 t) := by
  refine SpE_of ok_X12_leansWell rfl rfl ?_
  show AW S m_X12_leansWell 15 _ _ 0 0 0 [some (.ref 420), some (.int (nI d))] [] (hp I L w1 w2 t)
  refine a_l0 rfl rfl rfl ?_
  refine a_l1 rfl rfl rfl ?_
  refine a_s rfl rfl ?_
  refine a_eV1 rfl lX12_63 mo_X12_of (sp_X12_of (d := d) (k := 4) (by omega) (by decide)) rfl rfl rfl ⟨12, _, rfl, rfl, rfl⟩ rfl ?_
  refine a_s rfl rfl ?_
  refine a_ic_eq rfl (fun c7 => ?_) (fun c7 => ?_)
  · refine a_s rfl rfl ?_
    refine a_goto rfl ?_
    refine a_zret rfl rfl rfl ⟨by first | (simp_all [lwF, bI, bI_0]; done) | (have z := nI_clamp (show e < 2 ^ 31 by omega); simp_all [lwF, bI, bI_0]), rfl⟩
  · refine a_l0 rfl rfl rfl ?_
    refine a_l0 rfl rfl rfl ?_
    refine a_l1 rfl rfl rfl ?_
    refine a_s rfl rfl ?_
    refine a_eV1 rfl lX12_63 mo_X12_of (sp_X12_of (d := d) (k := 4) (by omega) (by decide)) rfl rfl rfl ⟨12, _, rfl, rfl, rfl⟩ rfl ?_
    obtain ⟨e, he, he2⟩ := (hl d hd).resolve_left c7
    refine a_top he2 ?_
    refine a_eV1 rfl lX12_246 mo_X12_isDone (sp_X12_isDone (d := e) (by omega)) rfl rfl rfl ⟨12, _, rfl, rfl, rfl⟩ rfl ?_
    refine a_if_eq rfl (fun c20 => ?_) (fun c20 => ?_)
    · refine a_s rfl rfl ?_
      refine a_zret rfl rfl rfl ⟨by first | (simp_all [lwF, bI, bI_0]; done) | (have z := nI_clamp (show e < 2 ^ 31 by omega); simp_all [lwF, bI, bI_0]), rfl⟩
    · refine a_s rfl rfl ?_
      refine a_goto rfl ?_
      refine a_zret rfl rfl rfl ⟨by first | (simp_all [lwF, bI, bI_0]; done) | (have z := nI_clamp (show e < 2 ^ 31 by omega); simp_all [lwF, bI, bI_0]), rfl⟩
theorem sp_X12_isReady {S : aS} {I : Nat → Nat → Int32} {L : Nat → Nat → Int64} {w1 w2 t : Nat} {nd d : Nat} (hn : nd ≤ 12) (hd : d < nd) (hl : LeW nd (I 421)) : SpE S m_X12_isReady 16 [.ref 420, .int (nI d)] (hp I L w1 w2 t) (some (.int (bI (decide (vd (I 421) 5 d = 0) && lwF (I 421) d)))) (hp I L w1 w2 t) := by
  refine SpE_of ok_X12_isReady rfl rfl ?_
  show AW S m_X12_isReady 16 _ _ 0 0 0 [some (.ref 420), some (.int (nI d))] [] (hp I L w1 w2 t)
  refine a_l0 rfl rfl rfl ?_
  refine a_l1 rfl rfl rfl ?_
  refine a_eV1 rfl lX12_135 mo_X12_isWaiting (sp_X12_isWaiting (d := d) (by omega)) rfl rfl rfl ⟨12, _, rfl, rfl, rfl⟩ rfl ?_
  refine a_if_eq rfl (fun c5 => ?_) (fun c5 => ?_)
  · refine a_s rfl rfl ?_
    refine a_zret rfl rfl rfl ⟨by simp_all [bI, bI_0], rfl⟩
  · refine a_l0 rfl rfl rfl ?_
    refine a_l1 rfl rfl rfl ?_
    refine a_eV1 rfl lX12_249 mo_X12_leansWell (sp_X12_leansWell hn hd hl) rfl rfl rfl ⟨12, _, rfl, rfl, rfl⟩ rfl ?_
    refine a_if_eq rfl (fun c13 => ?_) (fun c13 => ?_)
    · refine a_s rfl rfl ?_
      refine a_zret rfl rfl rfl ⟨by simp_all [bI, bI_0], rfl⟩
    · refine a_s rfl rfl ?_
      refine a_goto rfl ?_
      refine a_zret rfl rfl rfl ⟨by simp_all [bI, bI_0], rfl⟩
theorem sp_X12_goesAhead {S : aS} {I : Nat → Nat → Int32} {L : Nat → Nat → Int64} {w1 w2 t : Nat} {a b : Nat} (ha : a < 12) (hb : b < 12) : SpE S m_X12_goesAhead 14 [.ref 420, .int (nI a), .int (nI b)] (hp I L w1 w2 t) (some (.int (bI (decide (vd (I 421) 2 a < vd (I 421) 2 b ∨ (vd (I 421) 2 a = vd (I 421) 2 b ∧ nI a < nI b)))))) (hp I L w1 w2 t) := by
  refine SpE_of ok_X12_goesAhead rfl rfl ?_
  show AW S m_X12_goesAhead 14 _ _ 0 0 0 [some (.ref 420), some (.int (nI a)), some (.int (nI b))] [] (hp I L w1 w2 t)
  refine a_l0 rfl rfl rfl ?_
  refine a_l1 rfl rfl rfl ?_
  refine a_s rfl rfl ?_
  refine a_eV1 rfl lX12_63 mo_X12_of (sp_X12_of (d := a) (k := 2) ha (by decide)) rfl rfl rfl ⟨12, _, rfl, rfl, rfl⟩ rfl ?_
  refine a_l0 rfl rfl rfl ?_
  refine a_l2 rfl rfl rfl ?_
  refine a_s rfl rfl ?_
  refine a_eV1 rfl lX12_63 mo_X12_of (sp_X12_of (d := b) (k := 2) hb (by decide)) rfl rfl rfl ⟨12, _, rfl, rfl, rfl⟩ rfl ?_
  refine a_ic_lt rfl (fun c12 => ?_) (fun c12 => ?_)
  · refine a_s rfl rfl ?_
    refine a_goto rfl ?_
    refine a_zret rfl rfl rfl ⟨by simp_all [bI, le_nl, -Int32.not_lt, -Int32.not_le], rfl⟩
  · refine a_l0 rfl rfl rfl ?_
    refine a_l1 rfl rfl rfl ?_
    refine a_s rfl rfl ?_
    refine a_eV1 rfl lX12_63 mo_X12_of (sp_X12_of (d := a) (k := 2) ha (by decide)) rfl rfl rfl ⟨12, _, rfl, rfl, rfl⟩ rfl ?_
    refine a_l0 rfl rfl rfl ?_
    refine a_l2 rfl rfl rfl ?_
    refine a_s rfl rfl ?_
    refine a_eV1 rfl lX12_63 mo_X12_of (sp_X12_of (d := b) (k := 2) hb (by decide)) rfl rfl rfl ⟨12, _, rfl, rfl, rfl⟩ rfl ?_
    refine a_ic_ne rfl (fun c27 => ?_) (fun c27 => ?_)
    · refine a_s rfl rfl ?_
      refine a_zret rfl rfl rfl ⟨by simp_all [bI, le_nl, -Int32.not_lt, -Int32.not_le], rfl⟩
    · refine a_l1 rfl rfl rfl ?_
      refine a_l2 rfl rfl rfl ?_
      refine a_ic_ge rfl (fun c32 => ?_) (fun c32 => ?_)
      · refine a_s rfl rfl ?_
        refine a_zret rfl rfl rfl ⟨by simp_all [bI, le_nl, -Int32.not_lt, -Int32.not_le], rfl⟩
      · refine a_s rfl rfl ?_
        refine a_goto rfl ?_
        refine a_zret rfl rfl rfl ⟨by simp_all [bI, le_nl, -Int32.not_lt, -Int32.not_le], rfl⟩
