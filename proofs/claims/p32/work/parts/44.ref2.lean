/-! ===== the reference: over all duties ===== -/
def readyR (W : Nat → Int32) (d : Nat) : Bool := decide (vd W 5 d = 0) && lwF W d
def passR (nd : Nat) (W : Nat → Int32) (d : Nat) : Int32 := if vd W 5 d = 0 then W 7 * nI (cntF nd (fun e => decide (vd W 5 e = 0 ∧ vd W 2 e ≤ vd W 2 d))) else 0
def canR (nd : Nat) (W : Nat → Int32) (d : Nat) : Bool := readyR W d && decide (vd W 1 d ≤ passR nd W d)
def whereR (nd : Nat) (W : Nat → Int32) (d : Nat) (hour : Int32) : Int32 := if vd W 5 d = 0 then (if 0 ≤ hour / W 7 - placeF nd (vd W 5) (vd W 2) (nI d) then (if hour / W 7 - placeF nd (vd W 5) (vd W 2) (nI d) < 16 then hour / W 7 - placeF nd (vd W 5) (vd W 2) (nI d) else 16) else -1) else -1
def daysR (h f : Int32) : Int32 := if h = 0 then 0 else if f = 0 then 1000 else (h + f - 1) / f
def waitR (nd : Nat) (W : Nat → Int32) (p : Int32) : Int32 := ownF nd (vd W 0) p &&& inS nd (vd W 5) 0
def loadR (nd : Nat) (W : Nat → Int32) (p : Int32) : Int32 := sumF (vd W 1) (waitR nd W p) nd
theorem bI_1 (b : Bool) : bI b = 1 ↔ b = true := by cases b <;> simp [bI]
set_option maxRecDepth 100000
theorem sp_X12_ofState {S : aS} {I : Nat → Nat → Int32} {L : Nat → Nat → Int64} {w1 w2 t : Nat} {nd : Nat} (hn : nd ≤ 12) (hd : I 421 1 = nI nd) {w : Int32} : SpE S m_X12_ofState 14 [.ref 420, .int w] (hp I L w1 w2 t) (some (.int (inS nd (vd (I 421) 5) w))) (hp I L w1 w2 t) := by
  refine SpE_of ok_X12_ofState rfl rfl ?_
  show AW S m_X12_ofState 14 _ _ 0 0 0 [some (.ref 420), some (.int w), none, none] [] (hp I L w1 w2 t)
  refine a_s rfl rfl ?_
  refine a_s2 rfl rfl rfl rfl rfl rfl ?_
  refine a_s rfl rfl ?_
  refine a_s3 rfl rfl rfl rfl rfl rfl ?_
  refine a_forE (n := nd) (fun j => [some (.ref 420), some (.int w), some (.int (bs j (fun d => decide (vd (I 421) 5 d = w)))), some (.int (nI j))]) (fun j => hp I L w1 w2 t) (by simp [lsub, nI_0, bs, sumF, cntF]) (rfl) ?_ (fun j hj ih4 => ?_)
  · refine a_l3 rfl rfl rfl ?_
    refine a_l0 rfl rfl rfl ?_
    refine a_eV1 rfl lX12_74 mo_X12_duties (sp_X12_duties) rfl rfl rfl ⟨12, _, rfl, rfl, rfl⟩ rfl ?_
    refine a_top hd ?_
    refine a_ic_ge rfl (fun c9 => ?_) (fun c => absurd (Int32.le_refl _) c)
    refine a_l2 rfl rfl rfl ?_
    refine a_iret rfl rfl ⟨rfl, rfl⟩
  · refine a_l3 rfl rfl rfl ?_
    refine a_l0 rfl rfl rfl ?_
    refine a_eV1 rfl lX12_74 mo_X12_duties (sp_X12_duties) rfl rfl rfl ⟨12, _, rfl, rfl, rfl⟩ rfl ?_
    refine a_top hd ?_
    refine a_ic_ge rfl (fun c => absurd c (nI_ge hj (by omega))) (fun c9 => ?_)
    refine a_l2 rfl rfl rfl ?_
    refine a_l0 rfl rfl rfl ?_
    refine a_l3 rfl rfl rfl ?_
    refine a_s rfl rfl ?_
    refine a_eV1 rfl lX12_63 mo_X12_of (sp_X12_of (d := j) (k := 5) (by omega) (by decide)) rfl rfl rfl ⟨12, _, rfl, rfl, rfl⟩ rfl ?_
    refine a_l1 rfl rfl rfl ?_
    refine a_ic_ne rfl (fun c20 => ?_) (fun c20 => ?_)
    · refine a_s rfl rfl ?_
      refine a_s rfl rfl ?_
      refine a_s2 rfl rfl rfl rfl rfl rfl ?_
      refine a_i3 rfl rfl rfl ?_
      refine a_goto rfl ?_
      exact a_back ih4 (by simp_all [lsub, nI_1, bs, cntF, sumF, bI_0, bI, bit_lt (show j < 31 by omega)]) rfl
    · refine a_s rfl rfl ?_
      refine a_l3 rfl rfl rfl ?_
      refine a_s rfl rfl ?_
      refine a_goto rfl ?_
      refine a_s rfl rfl ?_
      refine a_s2 rfl rfl rfl rfl rfl rfl ?_
      refine a_i3 rfl rfl rfl ?_
      refine a_goto rfl ?_
      exact a_back ih4 (by simp_all [lsub, nI_1, bs, cntF, sumF, bI_0, bI, bit_lt (show j < 31 by omega)]) rfl
theorem sp_X12_ownedBy {S : aS} {I : Nat → Nat → Int32} {L : Nat → Nat → Int64} {w1 w2 t : Nat} {nd : Nat} (hn : nd ≤ 12) (hd : I 421 1 = nI nd) {w : Int32} : SpE S m_X12_ownedBy 14 [.ref 420, .int w] (hp I L w1 w2 t) (some (.int (ownF nd (vd (I 421) 0) w))) (hp I L w1 w2 t) := by
  refine SpE_of ok_X12_ownedBy rfl rfl ?_
  show AW S m_X12_ownedBy 14 _ _ 0 0 0 [some (.ref 420), some (.int w), none, none] [] (hp I L w1 w2 t)
  refine a_s rfl rfl ?_
  refine a_s2 rfl rfl rfl rfl rfl rfl ?_
  refine a_s rfl rfl ?_
  refine a_s3 rfl rfl rfl rfl rfl rfl ?_
  refine a_forE (n := nd) (fun j => [some (.ref 420), some (.int w), some (.int (bs j (fun d => decide (vd (I 421) 0 d = w)))), some (.int (nI j))]) (fun j => hp I L w1 w2 t) (by simp [lsub, nI_0, bs, sumF, cntF]) (rfl) ?_ (fun j hj ih4 => ?_)
  · refine a_l3 rfl rfl rfl ?_
    refine a_l0 rfl rfl rfl ?_
    refine a_eV1 rfl lX12_74 mo_X12_duties (sp_X12_duties) rfl rfl rfl ⟨12, _, rfl, rfl, rfl⟩ rfl ?_
    refine a_top hd ?_
    refine a_ic_ge rfl (fun c9 => ?_) (fun c => absurd (Int32.le_refl _) c)
    refine a_l2 rfl rfl rfl ?_
    refine a_iret rfl rfl ⟨rfl, rfl⟩
  · refine a_l3 rfl rfl rfl ?_
    refine a_l0 rfl rfl rfl ?_
    refine a_eV1 rfl lX12_74 mo_X12_duties (sp_X12_duties) rfl rfl rfl ⟨12, _, rfl, rfl, rfl⟩ rfl ?_
    refine a_top hd ?_
    refine a_ic_ge rfl (fun c => absurd c (nI_ge hj (by omega))) (fun c9 => ?_)
    refine a_l2 rfl rfl rfl ?_
    refine a_l0 rfl rfl rfl ?_
    refine a_l3 rfl rfl rfl ?_
    refine a_s rfl rfl ?_
    refine a_eV1 rfl lX12_63 mo_X12_of (sp_X12_of (d := j) (k := 0) (by omega) (by decide)) rfl rfl rfl ⟨12, _, rfl, rfl, rfl⟩ rfl ?_
    refine a_l1 rfl rfl rfl ?_
    refine a_ic_ne rfl (fun c20 => ?_) (fun c20 => ?_)
    · refine a_s rfl rfl ?_
      refine a_s rfl rfl ?_
      refine a_s2 rfl rfl rfl rfl rfl rfl ?_
      refine a_i3 rfl rfl rfl ?_
      refine a_goto rfl ?_
      exact a_back ih4 (by simp_all [lsub, nI_1, bs, cntF, sumF, bI_0, bI, bit_lt (show j < 31 by omega)]) rfl
    · refine a_s rfl rfl ?_
      refine a_l3 rfl rfl rfl ?_
      refine a_s rfl rfl ?_
      refine a_goto rfl ?_
      refine a_s rfl rfl ?_
      refine a_s2 rfl rfl rfl rfl rfl rfl ?_
      refine a_i3 rfl rfl rfl ?_
      refine a_goto rfl ?_
      exact a_back ih4 (by simp_all [lsub, nI_1, bs, cntF, sumF, bI_0, bI, bit_lt (show j < 31 by omega)]) rfl
theorem sp_X12_olderOnes {S : aS} {I : Nat → Nat → Int32} {L : Nat → Nat → Int64} {w1 w2 t : Nat} {nd : Nat} (hn : nd ≤ 12) (hd : I 421 1 = nI nd) {w : Int32} : SpE S m_X12_olderOnes 15 [.ref 420, .int w] (hp I L w1 w2 t) (some (.int (oldF nd (vd (I 421) 5) (vd (I 421) 2) w))) (hp I L w1 w2 t) := by
  refine SpE_of ok_X12_olderOnes rfl rfl ?_
  show AW S m_X12_olderOnes 15 _ _ 0 0 0 [some (.ref 420), some (.int w), none, none] [] (hp I L w1 w2 t)
  refine a_s rfl rfl ?_
  refine a_s2 rfl rfl rfl rfl rfl rfl ?_
  refine a_s rfl rfl ?_
  refine a_s3 rfl rfl rfl rfl rfl rfl ?_
  refine a_forE (n := nd) (fun j => [some (.ref 420), some (.int w), some (.int (bs j (fun d => decide (vd (I 421) 5 d = 0 ∧ w < vd (I 421) 2 d)))), some (.int (nI j))]) (fun j => hp I L w1 w2 t) (by simp [lsub, nI_0, bs, sumF, cntF]) (rfl) ?_ (fun j hj ih4 => ?_)
  · refine a_l3 rfl rfl rfl ?_
    refine a_l0 rfl rfl rfl ?_
    refine a_eV1 rfl lX12_74 mo_X12_duties (sp_X12_duties) rfl rfl rfl ⟨12, _, rfl, rfl, rfl⟩ rfl ?_
    refine a_top hd ?_
    refine a_ic_ge rfl (fun c9 => ?_) (fun c => absurd (Int32.le_refl _) c)
    refine a_l2 rfl rfl rfl ?_
    refine a_iret rfl rfl ⟨rfl, rfl⟩
  · refine a_l3 rfl rfl rfl ?_
    refine a_l0 rfl rfl rfl ?_
    refine a_eV1 rfl lX12_74 mo_X12_duties (sp_X12_duties) rfl rfl rfl ⟨12, _, rfl, rfl, rfl⟩ rfl ?_
    refine a_top hd ?_
    refine a_ic_ge rfl (fun c => absurd c (nI_ge hj (by omega))) (fun c9 => ?_)
    refine a_l2 rfl rfl rfl ?_
    refine a_l0 rfl rfl rfl ?_
    refine a_l3 rfl rfl rfl ?_
    refine a_eV1 rfl lX12_135 mo_X12_isWaiting (sp_X12_isWaiting (d := j) (by omega)) rfl rfl rfl ⟨12, _, rfl, rfl, rfl⟩ rfl ?_
    refine a_if_eq rfl (fun c18 => ?_) (fun c18 => ?_)
    · refine a_s rfl rfl ?_
      refine a_s rfl rfl ?_
      refine a_s2 rfl rfl rfl rfl rfl rfl ?_
      refine a_i3 rfl rfl rfl ?_
      refine a_goto rfl ?_
      exact a_back ih4 (by simp_all [lsub, nI_1, bs, cntF, sumF, bI_0, bI, bit_lt (show j < 31 by omega), le_nl, -Int32.not_lt, -Int32.not_le]) rfl
    · refine a_l0 rfl rfl rfl ?_
      refine a_l3 rfl rfl rfl ?_
      refine a_s rfl rfl ?_
      refine a_eV1 rfl lX12_63 mo_X12_of (sp_X12_of (d := j) (k := 2) (by omega) (by decide)) rfl rfl rfl ⟨12, _, rfl, rfl, rfl⟩ rfl ?_
      refine a_l1 rfl rfl rfl ?_
      refine a_ic_le rfl (fun c28 => ?_) (fun c28 => ?_)
      · refine a_s rfl rfl ?_
        refine a_s rfl rfl ?_
        refine a_s2 rfl rfl rfl rfl rfl rfl ?_
        refine a_i3 rfl rfl rfl ?_
        refine a_goto rfl ?_
        exact a_back ih4 (by simp_all [lsub, nI_1, bs, cntF, sumF, bI_0, bI, bit_lt (show j < 31 by omega), le_nl, -Int32.not_lt, -Int32.not_le]) rfl
      · refine a_s rfl rfl ?_
        refine a_l3 rfl rfl rfl ?_
        refine a_s rfl rfl ?_
        refine a_goto rfl ?_
        refine a_s rfl rfl ?_
        refine a_s2 rfl rfl rfl rfl rfl rfl ?_
        refine a_i3 rfl rfl rfl ?_
        refine a_goto rfl ?_
        exact a_back ih4 (by simp_all [lsub, nI_1, bs, cntF, sumF, bI_0, bI, bit_lt (show j < 31 by omega), le_nl, -Int32.not_lt, -Int32.not_le]) rfl
theorem sp_X12_readyOnes {S : aS} {I : Nat → Nat → Int32} {L : Nat → Nat → Int64} {w1 w2 t : Nat} {nd : Nat} (hn : nd ≤ 12) (hd : I 421 1 = nI nd) (hl : LeW nd (I 421)) : SpE S m_X12_readyOnes 17 [.ref 420] (hp I L w1 w2 t) (some (.int (bs nd (readyR (I 421))))) (hp I L w1 w2 t) := by
  refine SpE_of ok_X12_readyOnes rfl rfl ?_
  show AW S m_X12_readyOnes 17 _ _ 0 0 0 [some (.ref 420), none, none] [] (hp I L w1 w2 t)
  refine a_s rfl rfl ?_
  refine a_s1 rfl rfl rfl rfl rfl rfl ?_
  refine a_s rfl rfl ?_
  refine a_s2 rfl rfl rfl rfl rfl rfl ?_
  refine a_forE (n := nd) (fun j => [some (.ref 420), some (.int (bs j (readyR (I 421)))), some (.int (nI j))]) (fun j => hp I L w1 w2 t) (by simp [lsub, nI_0, bs, sumF, cntF]) (rfl) ?_ (fun j hj ih4 => ?_)
  · refine a_l2 rfl rfl rfl ?_
    refine a_l0 rfl rfl rfl ?_
    refine a_eV1 rfl lX12_74 mo_X12_duties (sp_X12_duties) rfl rfl rfl ⟨12, _, rfl, rfl, rfl⟩ rfl ?_
    refine a_top hd ?_
    refine a_ic_ge rfl (fun c9 => ?_) (fun c => absurd (Int32.le_refl _) c)
    refine a_l1 rfl rfl rfl ?_
    refine a_iret rfl rfl ⟨rfl, rfl⟩
  · refine a_l2 rfl rfl rfl ?_
    refine a_l0 rfl rfl rfl ?_
    refine a_eV1 rfl lX12_74 mo_X12_duties (sp_X12_duties) rfl rfl rfl ⟨12, _, rfl, rfl, rfl⟩ rfl ?_
    refine a_top hd ?_
    refine a_ic_ge rfl (fun c => absurd c (nI_ge hj (by omega))) (fun c9 => ?_)
    refine a_l1 rfl rfl rfl ?_
    refine a_l0 rfl rfl rfl ?_
    refine a_l2 rfl rfl rfl ?_
    refine a_eV1 rfl lX12_273 mo_X12_isReady (sp_X12_isReady hn hj hl) rfl rfl rfl ⟨12, _, rfl, rfl, rfl⟩ rfl ?_
    refine a_if_eq rfl (fun c18 => ?_) (fun c18 => ?_)
    · refine a_s rfl rfl ?_
      refine a_s rfl rfl ?_
      refine a_s1 rfl rfl rfl rfl rfl rfl ?_
      refine a_i2 rfl rfl rfl ?_
      refine a_goto rfl ?_
      exact a_back ih4 (by simp_all [lsub, nI_1, bs, cntF, sumF, bI_0, bI, bit_lt (show j < 31 by omega), readyR]) rfl
    · refine a_s rfl rfl ?_
      refine a_l2 rfl rfl rfl ?_
      refine a_s rfl rfl ?_
      refine a_goto rfl ?_
      refine a_s rfl rfl ?_
      refine a_s1 rfl rfl rfl rfl rfl rfl ?_
      refine a_i2 rfl rfl rfl ?_
      refine a_goto rfl ?_
      exact a_back ih4 (by simp_all [lsub, nI_1, bs, cntF, sumF, bI_0, bI, bit_lt (show j < 31 by omega), readyR]) rfl
theorem sp_X12_hoursOf {S : aS} {I : Nat → Nat → Int32} {L : Nat → Nat → Int64} {w1 w2 t : Nat} {nd : Nat} (hn : nd ≤ 12) (hd : I 421 1 = nI nd) {s : Int32} : SpE S m_X12_hoursOf 14 [.ref 420, .int s] (hp I L w1 w2 t) (some (.int (sumF (vd (I 421) 1) s nd))) (hp I L w1 w2 t) := by
  refine SpE_of ok_X12_hoursOf rfl rfl ?_
  show AW S m_X12_hoursOf 14 _ _ 0 0 0 [some (.ref 420), some (.int s), none, none] [] (hp I L w1 w2 t)
  refine a_s rfl rfl ?_
  refine a_s2 rfl rfl rfl rfl rfl rfl ?_
  refine a_s rfl rfl ?_
  refine a_s3 rfl rfl rfl rfl rfl rfl ?_
  refine a_forE (n := nd) (fun j => [some (.ref 420), some (.int s), some (.int (sumF (vd (I 421) 1) s j)), some (.int (nI j))]) (fun j => hp I L w1 w2 t) (by simp [lsub, nI_0, bs, sumF, cntF]) (rfl) ?_ (fun j hj ih4 => ?_)
  · refine a_l3 rfl rfl rfl ?_
    refine a_l0 rfl rfl rfl ?_
    refine a_eV1 rfl lX12_74 mo_X12_duties (sp_X12_duties) rfl rfl rfl ⟨12, _, rfl, rfl, rfl⟩ rfl ?_
    refine a_top hd ?_
    refine a_ic_ge rfl (fun c9 => ?_) (fun c => absurd (Int32.le_refl _) c)
    refine a_l2 rfl rfl rfl ?_
    refine a_iret rfl rfl ⟨rfl, rfl⟩
  · refine a_l3 rfl rfl rfl ?_
    refine a_l0 rfl rfl rfl ?_
    refine a_eV1 rfl lX12_74 mo_X12_duties (sp_X12_duties) rfl rfl rfl ⟨12, _, rfl, rfl, rfl⟩ rfl ?_
    refine a_top hd ?_
    refine a_ic_ge rfl (fun c => absurd c (nI_ge hj (by omega))) (fun c9 => ?_)
    refine a_l2 rfl rfl rfl ?_
    refine a_l1 rfl rfl rfl ?_
    refine a_l3 rfl rfl rfl ?_
    refine a_eS1 rfl lX12_304 mo_X12_has (sp_X12_has) rfl rfl rfl rfl ?_
    refine a_if_eq rfl (fun c18 => ?_) (fun c18 => ?_)
    · refine a_s rfl rfl ?_
      refine a_s rfl rfl ?_
      refine a_s2 rfl rfl rfl rfl rfl rfl ?_
      refine a_i3 rfl rfl rfl ?_
      refine a_goto rfl ?_
      exact a_back ih4 (by simp_all [lsub, nI_1, bs, cntF, sumF, bI_0, bI, bit_lt (show j < 31 by omega), Int32.add_zero]) rfl
    · refine a_l0 rfl rfl rfl ?_
      refine a_l3 rfl rfl rfl ?_
      refine a_s rfl rfl ?_
      refine a_eV1 rfl lX12_63 mo_X12_of (sp_X12_of (d := j) (k := 1) (by omega) (by decide)) rfl rfl rfl ⟨12, _, rfl, rfl, rfl⟩ rfl ?_
      refine a_goto rfl ?_
      refine a_s rfl rfl ?_
      refine a_s2 rfl rfl rfl rfl rfl rfl ?_
      refine a_i3 rfl rfl rfl ?_
      refine a_goto rfl ?_
      exact a_back ih4 (by simp_all [lsub, nI_1, bs, cntF, sumF, bI_0, bI, bit_lt (show j < 31 by omega), Int32.add_zero]) rfl
theorem sp_X12_waitingOf {S : aS} {I : Nat → Nat → Int32} {L : Nat → Nat → Int64} {w1 w2 t : Nat} {nd : Nat} (hn : nd ≤ 12) (hd : I 421 1 = nI nd) {w : Int32} : SpE S m_X12_waitingOf 15 [.ref 420, .int w] (hp I L w1 w2 t) (some (.int (waitR nd (I 421) w))) (hp I L w1 w2 t) := by
  refine SpE_of ok_X12_waitingOf rfl rfl ?_
  show AW S m_X12_waitingOf 15 _ _ 0 0 0 [some (.ref 420), some (.int w)] [] (hp I L w1 w2 t)
  refine a_l0 rfl rfl rfl ?_
  refine a_l1 rfl rfl rfl ?_
  refine a_eV1 rfl lX12_321 mo_X12_ownedBy (sp_X12_ownedBy hn hd) rfl rfl rfl ⟨12, _, rfl, rfl, rfl⟩ rfl ?_
  refine a_l0 rfl rfl rfl ?_
  refine a_s rfl rfl ?_
  refine a_eV1 rfl lX12_324 mo_X12_ofState (sp_X12_ofState hn hd) rfl rfl rfl ⟨12, _, rfl, rfl, rfl⟩ rfl ?_
  refine a_s rfl rfl ?_
  refine a_iret rfl rfl ⟨rfl, rfl⟩
theorem sp_X12_loadOf {S : aS} {I : Nat → Nat → Int32} {L : Nat → Nat → Int64} {w1 w2 t : Nat} {nd : Nat} (hn : nd ≤ 12) (hd : I 421 1 = nI nd) {w : Int32} : SpE S m_X12_loadOf 16 [.ref 420, .int w] (hp I L w1 w2 t) (some (.int (loadR nd (I 421) w))) (hp I L w1 w2 t) := by
  refine SpE_of ok_X12_loadOf rfl rfl ?_
  show AW S m_X12_loadOf 16 _ _ 0 0 0 [some (.ref 420), some (.int w)] [] (hp I L w1 w2 t)
  refine a_l0 rfl rfl rfl ?_
  refine a_l0 rfl rfl rfl ?_
  refine a_l1 rfl rfl rfl ?_
  refine a_eV1 rfl lX12_327 mo_X12_waitingOf (sp_X12_waitingOf hn hd) rfl rfl rfl ⟨12, _, rfl, rfl, rfl⟩ rfl ?_
  refine a_eV1 rfl lX12_330 mo_X12_hoursOf (sp_X12_hoursOf hn hd) rfl rfl rfl ⟨12, _, rfl, rfl, rfl⟩ rfl ?_
  refine a_iret rfl rfl ⟨rfl, rfl⟩
theorem sp_X12_daysFor {S : aS} {h : aH} {a b : Int32} : SpE S m_X12_daysFor 12 [.int a, .int b] (h) (some (.int (daysR a b))) (h) := by
  refine SpE_of ok_X12_daysFor rfl rfl ?_
  show AW S m_X12_daysFor 12 _ _ 0 0 0 [some (.int a), some (.int b)] [] (h)
  refine a_l0 rfl rfl rfl ?_
  refine a_if_ne rfl (fun c1 => ?_) (fun c1 => ?_)
  · refine a_l1 rfl rfl rfl ?_
    refine a_if_ne rfl (fun c7 => ?_) (fun c7 => ?_)
    · refine a_l0 rfl rfl rfl ?_
      refine a_l1 rfl rfl rfl ?_
      refine a_s rfl rfl ?_
      refine a_s rfl rfl ?_
      refine a_s rfl rfl ?_
      refine a_l1 rfl rfl rfl ?_
      refine a_idiv rfl (c7) ?_
      refine a_iret rfl rfl ⟨by simp [daysR, *], rfl⟩
    · refine a_s rfl rfl ?_
      refine a_goto rfl ?_
      refine a_iret rfl rfl ⟨by simp [daysR, *], rfl⟩
  · refine a_s rfl rfl ?_
    refine a_iret rfl rfl ⟨by simp [daysR, *], rfl⟩
theorem sp_X12_needsOf {S : aS} {I : Nat → Nat → Int32} {L : Nat → Nat → Int64} {w1 w2 t : Nat} {nd : Nat} (hn : nd ≤ 12) (hd : I 421 1 = nI nd) {p : Nat} (hp6 : p < 6) : SpE S m_X12_needsOf 17 [.ref 420, .int (nI p)] (hp I L w1 w2 t) (some (.int (daysR (loadR nd (I 421) (nI p)) (vp (I 421) 1 p)))) (hp I L w1 w2 t) := by
  refine SpE_of ok_X12_needsOf rfl rfl ?_
  show AW S m_X12_needsOf 17 _ _ 0 0 0 [some (.ref 420), some (.int (nI p))] [] (hp I L w1 w2 t)
  refine a_l0 rfl rfl rfl ?_
  refine a_l1 rfl rfl rfl ?_
  refine a_eV1 rfl lX12_333 mo_X12_loadOf (sp_X12_loadOf hn hd) rfl rfl rfl ⟨12, _, rfl, rfl, rfl⟩ rfl ?_
  refine a_l0 rfl rfl rfl ?_
  refine a_l1 rfl rfl rfl ?_
  refine a_s rfl rfl ?_
  refine a_eV1 rfl lX12_252 mo_X12_ofPerson (sp_X12_ofPerson (d := p) (k := 1) hp6 (by decide)) rfl rfl rfl ⟨12, _, rfl, rfl, rfl⟩ rfl ?_
  refine a_eS1 rfl lX12_336 mo_X12_daysFor (sp_X12_daysFor) rfl rfl rfl rfl ?_
  refine a_iret rfl rfl ⟨rfl, rfl⟩
theorem sp_X12_placeOf {S : aS} {I : Nat → Nat → Int32} {L : Nat → Nat → Int64} {w1 w2 t : Nat} {nd : Nat} (hn : nd ≤ 12) (hd : I 421 1 = nI nd) {i : Nat} (hi : i < nd) : SpE S m_X12_placeOf 15 [.ref 420, .int (nI i)] (hp I L w1 w2 t) (some (.int (placeF nd (vd (I 421) 5) (vd (I 421) 2) (nI i)))) (hp I L w1 w2 t) := by
  refine SpE_of ok_X12_placeOf rfl rfl ?_
  show AW S m_X12_placeOf 15 _ _ 0 0 0 [some (.ref 420), some (.int (nI i)), none, none] [] (hp I L w1 w2 t)
  refine a_l0 rfl rfl rfl ?_
  refine a_l1 rfl rfl rfl ?_
  refine a_eV1 rfl lX12_135 mo_X12_isWaiting (sp_X12_isWaiting (d := i) (by omega)) rfl rfl rfl ⟨12, _, rfl, rfl, rfl⟩ rfl ?_
  refine a_if_ne rfl (fun c5 => ?_) (fun c5 => ?_)
  · refine a_s rfl rfl ?_
    refine a_s2 rfl rfl rfl rfl rfl rfl ?_
    refine a_s rfl rfl ?_
    refine a_s3 rfl rfl rfl rfl rfl rfl ?_
    refine a_forE (n := nd) (fun j => [some (.ref 420), some (.int (nI i)), some (.int (nI (cntF j (fun d => decide (vd (I 421) 5 d = 0 ∧ (vd (I 421) 2 d < vd (I 421) 2 i ∨ (vd (I 421) 2 d = vd (I 421) 2 i ∧ nI d < nI i))))))), some (.int (nI j))]) (fun j => hp I L w1 w2 t) (by simp [lsub, nI_0, bs, sumF, cntF]) (rfl) ?_ (fun j hj ih14 => ?_)
    · refine a_l3 rfl rfl rfl ?_
      refine a_l0 rfl rfl rfl ?_
      refine a_eV1 rfl lX12_74 mo_X12_duties (sp_X12_duties) rfl rfl rfl ⟨12, _, rfl, rfl, rfl⟩ rfl ?_
      refine a_top hd ?_
      refine a_ic_ge rfl (fun c19 => ?_) (fun c => absurd (Int32.le_refl _) c)
      refine a_l2 rfl rfl rfl ?_
      refine a_iret rfl rfl ⟨by have z := atF_nI (f := vd (I 421) 2) (n := 12) (i := i) (by omega) (by decide); simp_all [placeF, placeC, waitF_nI, bI, bI_0], rfl⟩
    · refine a_l3 rfl rfl rfl ?_
      refine a_l0 rfl rfl rfl ?_
      refine a_eV1 rfl lX12_74 mo_X12_duties (sp_X12_duties) rfl rfl rfl ⟨12, _, rfl, rfl, rfl⟩ rfl ?_
      refine a_top hd ?_
      refine a_ic_ge rfl (fun c => absurd c (nI_ge hj (by omega))) (fun c19 => ?_)
      refine a_l2 rfl rfl rfl ?_
      refine a_l3 rfl rfl rfl ?_
      refine a_l1 rfl rfl rfl ?_
      refine a_ic_eq rfl (fun c25 => ?_) (fun c25 => ?_)
      · refine a_s rfl rfl ?_
        refine a_s rfl rfl ?_
        refine a_s2 rfl rfl rfl rfl rfl rfl ?_
        refine a_i3 rfl rfl rfl ?_
        refine a_goto rfl ?_
        obtain rfl := nI_inj (a := j) (b := i) (by omega) (by omega) c25
        exact a_back ih14 (by rw [cntF_f (n := j) (P := (fun d => decide (vd (I 421) 5 d = 0 ∧ (vd (I 421) 2 d < vd (I 421) 2 j ∨ (vd (I 421) 2 d = vd (I 421) 2 j ∧ nI d < nI j))))) (decide_eq_false fun z => z.2.elim (fun q => Int32.lt_irrefl q) (fun q => Int32.lt_irrefl q.2))]; simp [lsub, nI_1, Int32.add_zero]) rfl
      · refine a_l0 rfl rfl rfl ?_
        refine a_l3 rfl rfl rfl ?_
        refine a_eV1 rfl lX12_135 mo_X12_isWaiting (sp_X12_isWaiting (d := j) (by omega)) rfl rfl rfl ⟨12, _, rfl, rfl, rfl⟩ rfl ?_
        refine a_if_eq rfl (fun c33 => ?_) (fun c33 => ?_)
        · refine a_s rfl rfl ?_
          refine a_s rfl rfl ?_
          refine a_s2 rfl rfl rfl rfl rfl rfl ?_
          refine a_i3 rfl rfl rfl ?_
          refine a_goto rfl ?_
          exact a_back ih14 (by rw [cntF_f (n := j) (P := (fun d => decide (vd (I 421) 5 d = 0 ∧ (vd (I 421) 2 d < vd (I 421) 2 i ∨ (vd (I 421) 2 d = vd (I 421) 2 i ∧ nI d < nI i))))) (decide_eq_false fun z => of_decide_eq_false (bI_f c33) z.1)]; simp [lsub, nI_1, Int32.add_zero]) rfl
        · refine a_l0 rfl rfl rfl ?_
          refine a_l3 rfl rfl rfl ?_
          refine a_l1 rfl rfl rfl ?_
          refine a_eV1 rfl lX12_270 mo_X12_goesAhead (sp_X12_goesAhead (a := j) (b := i) (by omega) (by omega)) rfl rfl rfl ⟨12, _, rfl, rfl, rfl⟩ rfl ?_
          refine a_if_eq rfl (fun c42 => ?_) (fun c42 => ?_)
          · refine a_s rfl rfl ?_
            refine a_s rfl rfl ?_
            refine a_s2 rfl rfl rfl rfl rfl rfl ?_
            refine a_i3 rfl rfl rfl ?_
            refine a_goto rfl ?_
            exact a_back ih14 (by rw [cntF_f (n := j) (P := (fun d => decide (vd (I 421) 5 d = 0 ∧ (vd (I 421) 2 d < vd (I 421) 2 i ∨ (vd (I 421) 2 d = vd (I 421) 2 i ∧ nI d < nI i))))) (decide_eq_false fun z => of_decide_eq_false (bI_f c42) z.2)]; simp [lsub, nI_1, Int32.add_zero]) rfl
          · refine a_s rfl rfl ?_
            refine a_goto rfl ?_
            refine a_s rfl rfl ?_
            refine a_s2 rfl rfl rfl rfl rfl rfl ?_
            refine a_i3 rfl rfl rfl ?_
            refine a_goto rfl ?_
            exact a_back ih14 (by rw [cntF_t (n := j) (P := (fun d => decide (vd (I 421) 5 d = 0 ∧ (vd (I 421) 2 d < vd (I 421) 2 i ∨ (vd (I 421) 2 d = vd (I 421) 2 i ∧ nI d < nI i))))) (decide_eq_true ⟨of_decide_eq_true (bI_t c33), of_decide_eq_true (bI_t c42)⟩)]; simp [lsub, nI_1]) rfl
  · refine a_s rfl rfl ?_
    refine a_iret rfl rfl ⟨by simp_all [placeF, waitF_nI, bI, bI_0], rfl⟩
theorem sp_X12_passesBy {S : aS} {I : Nat → Nat → Int32} {L : Nat → Nat → Int64} {w1 w2 t : Nat} {nd : Nat} (hn : nd ≤ 12) (hd : I 421 1 = nI nd) {i : Nat} (hi : i < nd) : SpE S m_X12_passesBy 15 [.ref 420, .int (nI i)] (hp I L w1 w2 t) (some (.int (passR nd (I 421) i))) (hp I L w1 w2 t) := by
  refine SpE_of ok_X12_passesBy rfl rfl ?_
  show AW S m_X12_passesBy 15 _ _ 0 0 0 [some (.ref 420), some (.int (nI i)), none, none] [] (hp I L w1 w2 t)
  refine a_l0 rfl rfl rfl ?_
  refine a_l1 rfl rfl rfl ?_
  refine a_eV1 rfl lX12_135 mo_X12_isWaiting (sp_X12_isWaiting (d := i) (by omega)) rfl rfl rfl ⟨12, _, rfl, rfl, rfl⟩ rfl ?_
  refine a_if_ne rfl (fun c5 => ?_) (fun c5 => ?_)
  · refine a_s rfl rfl ?_
    refine a_s2 rfl rfl rfl rfl rfl rfl ?_
    refine a_s rfl rfl ?_
    refine a_s3 rfl rfl rfl rfl rfl rfl ?_
    refine a_forE (n := nd) (fun j => [some (.ref 420), some (.int (nI i)), some (.int (nI (cntF j (fun e => decide (vd (I 421) 5 e = 0 ∧ vd (I 421) 2 e ≤ vd (I 421) 2 i))))), some (.int (nI j))]) (fun j => hp I L w1 w2 t) (by simp [lsub, nI_0, bs, sumF, cntF]) (rfl) ?_ (fun j hj ih14 => ?_)
    · refine a_l3 rfl rfl rfl ?_
      refine a_l0 rfl rfl rfl ?_
      refine a_eV1 rfl lX12_74 mo_X12_duties (sp_X12_duties) rfl rfl rfl ⟨12, _, rfl, rfl, rfl⟩ rfl ?_
      refine a_top hd ?_
      refine a_ic_ge rfl (fun c19 => ?_) (fun c => absurd (Int32.le_refl _) c)
      refine a_l0 rfl rfl rfl ?_
      refine a_getq rfl gfX12_13_12 rfl (rfl) ?_
      refine a_s rfl rfl ?_
      refine a_ialdv (v := I 421 7) rfl (n := 2033) rfl ⟨by decide, by decide⟩ rfl ?_
      refine a_l2 rfl rfl rfl ?_
      refine a_s rfl rfl ?_
      refine a_iret rfl rfl ⟨by simp_all [passR, bI, bI_0], rfl⟩
    · refine a_l3 rfl rfl rfl ?_
      refine a_l0 rfl rfl rfl ?_
      refine a_eV1 rfl lX12_74 mo_X12_duties (sp_X12_duties) rfl rfl rfl ⟨12, _, rfl, rfl, rfl⟩ rfl ?_
      refine a_top hd ?_
      refine a_ic_ge rfl (fun c => absurd c (nI_ge hj (by omega))) (fun c19 => ?_)
      refine a_l2 rfl rfl rfl ?_
      refine a_l0 rfl rfl rfl ?_
      refine a_l3 rfl rfl rfl ?_
      refine a_eV1 rfl lX12_135 mo_X12_isWaiting (sp_X12_isWaiting (d := j) (by omega)) rfl rfl rfl ⟨12, _, rfl, rfl, rfl⟩ rfl ?_
      refine a_if_eq rfl (fun c28 => ?_) (fun c28 => ?_)
      · refine a_s rfl rfl ?_
        refine a_s rfl rfl ?_
        refine a_s2 rfl rfl rfl rfl rfl rfl ?_
        refine a_i3 rfl rfl rfl ?_
        refine a_goto rfl ?_
        exact a_back ih14 (by simp_all [lsub, nI_1, bs, cntF, sumF, bI_0, bI, bit_lt (show j < 31 by omega), le_nl, -Int32.not_lt, -Int32.not_le, Int32.add_zero]) rfl
      · refine a_l0 rfl rfl rfl ?_
        refine a_l3 rfl rfl rfl ?_
        refine a_s rfl rfl ?_
        refine a_eV1 rfl lX12_63 mo_X12_of (sp_X12_of (d := j) (k := 2) (by omega) (by decide)) rfl rfl rfl ⟨12, _, rfl, rfl, rfl⟩ rfl ?_
        refine a_l0 rfl rfl rfl ?_
        refine a_l1 rfl rfl rfl ?_
        refine a_s rfl rfl ?_
        refine a_eV1 rfl lX12_63 mo_X12_of (sp_X12_of (d := i) (k := 2) (by omega) (by decide)) rfl rfl rfl ⟨12, _, rfl, rfl, rfl⟩ rfl ?_
        refine a_ic_gt rfl (fun c43 => ?_) (fun c43 => ?_)
        · refine a_s rfl rfl ?_
          refine a_s rfl rfl ?_
          refine a_s2 rfl rfl rfl rfl rfl rfl ?_
          refine a_i3 rfl rfl rfl ?_
          refine a_goto rfl ?_
          exact a_back ih14 (by simp_all [lsub, nI_1, bs, cntF, sumF, bI_0, bI, bit_lt (show j < 31 by omega), le_nl, -Int32.not_lt, -Int32.not_le, Int32.add_zero]) rfl
        · refine a_s rfl rfl ?_
          refine a_goto rfl ?_
          refine a_s rfl rfl ?_
          refine a_s2 rfl rfl rfl rfl rfl rfl ?_
          refine a_i3 rfl rfl rfl ?_
          refine a_goto rfl ?_
          exact a_back ih14 (by simp_all [lsub, nI_1, bs, cntF, sumF, bI_0, bI, bit_lt (show j < 31 by omega), le_nl, -Int32.not_lt, -Int32.not_le, Int32.add_zero]) rfl
  · refine a_s rfl rfl ?_
    refine a_iret rfl rfl ⟨by simp_all [passR, bI, bI_0], rfl⟩
theorem sp_X12_canBeCalled {S : aS} {I : Nat → Nat → Int32} {L : Nat → Nat → Int64} {w1 w2 t : Nat} {nd : Nat} (hn : nd ≤ 12) (hd : I 421 1 = nI nd) (hl : LeW nd (I 421)) {i : Nat} (hi : i < nd) : SpE S m_X12_canBeCalled 17 [.ref 420, .int (nI i)] (hp I L w1 w2 t) (some (.int (bI (canR nd (I 421) i)))) (hp I L w1 w2 t) := by
  refine SpE_of ok_X12_canBeCalled rfl rfl ?_
  show AW S m_X12_canBeCalled 17 _ _ 0 0 0 [some (.ref 420), some (.int (nI i))] [] (hp I L w1 w2 t)
  refine a_l0 rfl rfl rfl ?_
  refine a_l1 rfl rfl rfl ?_
  refine a_eV1 rfl lX12_273 mo_X12_isReady (sp_X12_isReady hn hi hl) rfl rfl rfl ⟨12, _, rfl, rfl, rfl⟩ rfl ?_
  refine a_if_eq rfl (fun c5 => ?_) (fun c5 => ?_)
  · refine a_s rfl rfl ?_
    refine a_zret rfl rfl rfl ⟨by simp_all [canR, readyR, bI, bI_0, le_nl, -Int32.not_lt, -Int32.not_le], rfl⟩
  · refine a_l0 rfl rfl rfl ?_
    refine a_l1 rfl rfl rfl ?_
    refine a_s rfl rfl ?_
    refine a_eV1 rfl lX12_63 mo_X12_of (sp_X12_of (d := i) (k := 1) (by omega) (by decide)) rfl rfl rfl ⟨12, _, rfl, rfl, rfl⟩ rfl ?_
    refine a_l0 rfl rfl rfl ?_
    refine a_l1 rfl rfl rfl ?_
    refine a_eV1 rfl lX12_276 mo_X12_passesBy (sp_X12_passesBy hn hd hi) rfl rfl rfl ⟨12, _, rfl, rfl, rfl⟩ rfl ?_
    refine a_ic_gt rfl (fun c19 => ?_) (fun c19 => ?_)
    · refine a_s rfl rfl ?_
      refine a_zret rfl rfl rfl ⟨by simp_all [canR, readyR, bI, bI_0, le_nl, -Int32.not_lt, -Int32.not_le], rfl⟩
    · refine a_s rfl rfl ?_
      refine a_goto rfl ?_
      refine a_zret rfl rfl rfl ⟨by simp_all [canR, readyR, bI, bI_0, le_nl, -Int32.not_lt, -Int32.not_le], rfl⟩
theorem sp_X12_canOnes {S : aS} {I : Nat → Nat → Int32} {L : Nat → Nat → Int64} {w1 w2 t : Nat} {nd : Nat} (hn : nd ≤ 12) (hd : I 421 1 = nI nd) (hl : LeW nd (I 421)) : SpE S m_X12_canOnes 18 [.ref 420] (hp I L w1 w2 t) (some (.int (bs nd (canR nd (I 421))))) (hp I L w1 w2 t) := by
  refine SpE_of ok_X12_canOnes rfl rfl ?_
  show AW S m_X12_canOnes 18 _ _ 0 0 0 [some (.ref 420), none, none] [] (hp I L w1 w2 t)
  refine a_s rfl rfl ?_
  refine a_s1 rfl rfl rfl rfl rfl rfl ?_
  refine a_s rfl rfl ?_
  refine a_s2 rfl rfl rfl rfl rfl rfl ?_
  refine a_forE (n := nd) (fun j => [some (.ref 420), some (.int (bs j (canR nd (I 421)))), some (.int (nI j))]) (fun j => hp I L w1 w2 t) (by simp [lsub, nI_0, bs, sumF, cntF]) (rfl) ?_ (fun j hj ih4 => ?_)
  · refine a_l2 rfl rfl rfl ?_
    refine a_l0 rfl rfl rfl ?_
    refine a_eV1 rfl lX12_74 mo_X12_duties (sp_X12_duties) rfl rfl rfl ⟨12, _, rfl, rfl, rfl⟩ rfl ?_
    refine a_top hd ?_
    refine a_ic_ge rfl (fun c9 => ?_) (fun c => absurd (Int32.le_refl _) c)
    refine a_l1 rfl rfl rfl ?_
    refine a_iret rfl rfl ⟨rfl, rfl⟩
  · refine a_l2 rfl rfl rfl ?_
    refine a_l0 rfl rfl rfl ?_
    refine a_eV1 rfl lX12_74 mo_X12_duties (sp_X12_duties) rfl rfl rfl ⟨12, _, rfl, rfl, rfl⟩ rfl ?_
    refine a_top hd ?_
    refine a_ic_ge rfl (fun c => absurd c (nI_ge hj (by omega))) (fun c9 => ?_)
    refine a_l1 rfl rfl rfl ?_
    refine a_l0 rfl rfl rfl ?_
    refine a_l2 rfl rfl rfl ?_
    refine a_eV1 rfl lX12_280 mo_X12_canBeCalled (sp_X12_canBeCalled hn hd hl hj) rfl rfl rfl ⟨12, _, rfl, rfl, rfl⟩ rfl ?_
    refine a_if_eq rfl (fun c18 => ?_) (fun c18 => ?_)
    · refine a_s rfl rfl ?_
      refine a_s rfl rfl ?_
      refine a_s1 rfl rfl rfl rfl rfl rfl ?_
      refine a_i2 rfl rfl rfl ?_
      refine a_goto rfl ?_
      exact a_back ih4 (by simp_all [lsub, nI_1, bs, cntF, sumF, bI_0, bI, bit_lt (show j < 31 by omega)]) rfl
    · refine a_s rfl rfl ?_
      refine a_l2 rfl rfl rfl ?_
      refine a_s rfl rfl ?_
      refine a_goto rfl ?_
      refine a_s rfl rfl ?_
      refine a_s1 rfl rfl rfl rfl rfl rfl ?_
      refine a_i2 rfl rfl rfl ?_
      refine a_goto rfl ?_
      exact a_back ih4 (by simp_all [lsub, nI_1, bs, cntF, sumF, bI_0, bI, bit_lt (show j < 31 by omega)]) rfl
theorem sp_X12_whereAt {S : aS} {I : Nat → Nat → Int32} {L : Nat → Nat → Int64} {w1 w2 t : Nat} {nd : Nat} (hn : nd ≤ 12) (hd : I 421 1 = nI nd) {i : Nat} (hi : i < nd) (h7 : ¬ I 421 7 = 0) {x : Int32} : SpE S m_X12_whereAt 16 [.ref 420, .int (nI i), .int x] (hp I L w1 w2 t) (some (.int (whereR nd (I 421) i x))) (hp I L w1 w2 t) := by
  refine SpE_of ok_X12_whereAt rfl rfl ?_
  show AW S m_X12_whereAt 16 _ _ 0 0 0 [some (.ref 420), some (.int (nI i)), some (.int x), none] [] (hp I L w1 w2 t)
  refine a_l0 rfl rfl rfl ?_
  refine a_l1 rfl rfl rfl ?_
  refine a_eV1 rfl lX12_135 mo_X12_isWaiting (sp_X12_isWaiting (d := i) (by omega)) rfl rfl rfl ⟨12, _, rfl, rfl, rfl⟩ rfl ?_
  refine a_if_ne rfl (fun c5 => ?_) (fun c5 => ?_)
  · refine a_l2 rfl rfl rfl ?_
    refine a_l0 rfl rfl rfl ?_
    refine a_getq rfl gfX12_13_12 rfl (rfl) ?_
    refine a_s rfl rfl ?_
    refine a_ialdv (v := I 421 7) rfl (n := 2033) rfl ⟨by decide, by decide⟩ rfl ?_
    refine a_idiv rfl (h7) ?_
    refine a_l0 rfl rfl rfl ?_
    refine a_l1 rfl rfl rfl ?_
    refine a_eV1 rfl lX12_283 mo_X12_placeOf (sp_X12_placeOf hn hd hi) rfl rfl rfl ⟨12, _, rfl, rfl, rfl⟩ rfl ?_
    refine a_s rfl rfl ?_
    refine a_s3 rfl rfl rfl rfl rfl rfl ?_
    refine a_l3 rfl rfl rfl ?_
    refine a_if_ge rfl (fun c27 => ?_) (fun c27 => ?_)
    · refine a_s rfl rfl ?_
      refine a_l3 rfl rfl rfl ?_
      refine a_min rfl lX12_295 mj_min rfl rfl ?_
      refine a_iret rfl rfl ⟨by simp_all [whereR, bI, bI_0, le_nl, -Int32.not_lt, -Int32.not_le], rfl⟩
    · refine a_s rfl rfl ?_
      refine a_goto rfl ?_
      refine a_iret rfl rfl ⟨by simp_all [whereR, bI, bI_0, le_nl, -Int32.not_lt, -Int32.not_le], rfl⟩
  · refine a_s rfl rfl ?_
    refine a_iret rfl rfl ⟨by simp_all [whereR, bI, bI_0], rfl⟩
