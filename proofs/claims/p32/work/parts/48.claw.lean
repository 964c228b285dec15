/-! ===== the class: its law ===== -/
def factC (I : Nat → Nat → Int32) (a d : Nat) (k : Nat) : Int32 := match k with
  | 0 => nI d
  | 1 => I (a + 4) d
  | 2 => I (a + 5) d
  | 3 => if I (a + 6) d = -1 then 9 else I (a + 6) d
  | 4 => I (a + 3) d
  | 5 => atF (I (a + 1)) 6 (I (a + 3) d)
  | 6 => I a 10
  | 7 => bI (lfF (I (a + 7)) (I (a + 8)) (nI d))
  | 8 => bI (decide (11 < I (a + 5) d))
  | _ => 0
theorem factC_01 (I : Nat → Nat → Int32) (a d : Nat) : ∀ k, k = 7 ∨ k = 8 → factC I a d k = 0 ∨ factC I a d k = 1 := by
  intro k hk
  rcases hk with rfl | rfl
  · show bI _ = 0 ∨ bI _ = 1
    cases lfF (I (a + 7)) (I (a + 8)) (nI d) <;> simp [bI]
  · show bI _ = 0 ∨ bI _ = 1
    cases decide (11 < I (a + 5) d) <;> simp [bI]
theorem stp_lwp : ∀ a ∈ stps, ∀ b ∈ lwps, a + 11 ≤ b ∨ b + 8 ≤ a := by decide +kernel
set_option maxRecDepth 100000
theorem sp_X2_setPart {S : aS} {I : Nat → Nat → Int32} {L : Nat → Nat → Int64} {w1 w2 t : Nat} {b k : Nat} (hb : lwp b) (hk : k < 9) {x y : Int32} (hx : x - 1000 = nI k) : SpE S m_X2_setPart 13 [.ref b, .int x, .int y] (hp I L w1 w2 t) none (hp (up2 I (b + 6) k y) L w1 w2 t) := by
  refine SpE_of ok_X2_setPart rfl rfl ?_
  show AW S m_X2_setPart 13 _ _ 0 0 0 [some (.ref b), some (.int x), some (.int y)] [] (hp I L w1 w2 t)
  refine a_l0 rfl rfl rfl ?_
  refine a_getq rfl gfX2_31_2 (kW0 hb) (rW7 hb) ?_
  refine a_l1 rfl rfl rfl ?_
  refine a_s rfl rfl ?_
  refine a_s rfl rfl ?_
  rw [hx]
  refine a_l2 rfl rfl rfl ?_
  refine a_eSN0 rfl lX2_44 mo_X11_setAt (sp_X11_setAt (n := 9) (kW6 hb)) rfl rfl rfl rfl ?_
  refine a_vret rfl rfl ⟨rfl, by rw [setF_nI hk (by decide)]⟩
theorem sp_X2_takeParts {S : aS} {I : Nat → Nat → Int32} {L : Nat → Nat → Int64} {w1 w2 t : Nat} {a b d : Nat} (ha : stp a) (hb : lwp b) (hd : d < 12) : Sp S m_X2_takeParts 15 0 0 [.ref b, .ref a, .int (nI d)] (hp I L w1 w2 t) (fun v h' => v = none ∧ ∃ I', h' = hp I' L w1 w2 t ∧ (∀ q, q ≠ b + 6 → I' q = I q) ∧ ∀ k, k < 9 → I' (b + 6) k = factC I a d k) (fun _ _ => False) := by
  have hsep := stp_lwp a ha b hb
  refine Sp_of ok_X2_takeParts rfl rfl ?_
  show AW S m_X2_takeParts 15 _ _ 0 0 0 [some (.ref b), some (.ref a), some (.int (nI d)), none, none] [] (hp I L w1 w2 t)
  refine a_l1 rfl rfl rfl ?_
  refine a_getq rfl gfX2_82_5 (kS0 ha) (rS7 ha) ?_
  refine a_l2 rfl rfl rfl ?_
  refine a_eSN1 rfl lX2_61 mo_X11_at ((sp_X11_at (n := 12) (kS6 ha)).cast (r' := some (.int (I (a + 6) d))) (by (try simp (disch := omega) only [up2_row]); rw [atF_nI (by omega) (by decide)]) rfl) rfl rfl rfl rfl ?_
  refine a_s3 rfl rfl rfl rfl rfl rfl ?_
  refine a_l1 rfl rfl rfl ?_
  refine a_getq rfl gfX2_85_5 (kS0 ha) (rS4 ha) ?_
  refine a_l2 rfl rfl rfl ?_
  refine a_eSN1 rfl lX2_61 mo_X11_at ((sp_X11_at (n := 12) (kS3 ha)).cast (r' := some (.int (I (a + 3) d))) (by (try simp (disch := omega) only [up2_row]); rw [atF_nI (by omega) (by decide)]) rfl) rfl rfl rfl rfl ?_
  refine a_s4 rfl rfl rfl rfl rfl rfl ?_
  refine a_l0 rfl rfl rfl ?_
  refine a_s rfl rfl ?_
  refine a_l2 rfl rfl rfl ?_
  refine a_eV0 rfl lX2_88 mo_X2_setPart (sp_X2_setPart (k := 0) hb (by decide) (by decide)) rfl rfl rfl ⟨2, _, (kW0 hb), rfl, rfl⟩ rfl ?_
  refine a_l0 rfl rfl rfl ?_
  refine a_s rfl rfl ?_
  refine a_l1 rfl rfl rfl ?_
  refine a_getq rfl gfX2_92_5 (kS0 ha) (rS5 ha) ?_
  refine a_l2 rfl rfl rfl ?_
  refine a_eSN1 rfl lX2_61 mo_X11_at ((sp_X11_at (n := 12) (kS4 ha)).cast (r' := some (.int (I (a + 4) d))) (by (try simp (disch := omega) only [up2_row]); rw [atF_nI (by omega) (by decide)]) rfl) rfl rfl rfl rfl ?_
  refine a_eV0 rfl lX2_88 mo_X2_setPart (sp_X2_setPart (k := 1) hb (by decide) (by decide)) rfl rfl rfl ⟨2, _, (kW0 hb), rfl, rfl⟩ rfl ?_
  refine a_l0 rfl rfl rfl ?_
  refine a_s rfl rfl ?_
  refine a_l1 rfl rfl rfl ?_
  refine a_getq rfl gfX2_56_5 (kS0 ha) (rS6 ha) ?_
  refine a_l2 rfl rfl rfl ?_
  refine a_eSN1 rfl lX2_61 mo_X11_at ((sp_X11_at (n := 12) (kS5 ha)).cast (r' := some (.int (I (a + 5) d))) (by (try simp (disch := omega) only [up2_row]); rw [atF_nI (by omega) (by decide)]) rfl) rfl rfl rfl rfl ?_
  refine a_eV0 rfl lX2_88 mo_X2_setPart (sp_X2_setPart (k := 2) hb (by decide) (by decide)) rfl rfl rfl ⟨2, _, (kW0 hb), rfl, rfl⟩ rfl ?_
  refine a_l0 rfl rfl rfl ?_
  refine a_s rfl rfl ?_
  refine a_l3 rfl rfl rfl ?_
  refine a_s rfl rfl ?_
  refine a_ic_ne rfl (fun c63 => ?_) (fun c63 => ?_)
  · refine a_l3 rfl rfl rfl ?_
    refine a_eV0 rfl lX2_88 mo_X2_setPart (sp_X2_setPart (k := 3) hb (by decide) (by decide)) rfl rfl rfl ⟨2, _, (kW0 hb), rfl, rfl⟩ rfl ?_
    refine a_l0 rfl rfl rfl ?_
    refine a_s rfl rfl ?_
    refine a_l4 rfl rfl rfl ?_
    refine a_eV0 rfl lX2_88 mo_X2_setPart (sp_X2_setPart (k := 4) hb (by decide) (by decide)) rfl rfl rfl ⟨2, _, (kW0 hb), rfl, rfl⟩ rfl ?_
    refine a_l0 rfl rfl rfl ?_
    refine a_s rfl rfl ?_
    refine a_l1 rfl rfl rfl ?_
    refine a_getq rfl gfX2_95_5 (kS0 ha) (rS1 ha) ?_
    refine a_l4 rfl rfl rfl ?_
    refine a_eSN1 rfl lX2_61 mo_X11_at ((sp_X11_at (n := 6) (kS1 ha)).cast (r' := some (.int (atF (I (a + 1)) 6 (I (a + 3) d)))) (by simp (disch := omega) only [up2_row]) rfl) rfl rfl rfl rfl ?_
    refine a_eV0 rfl lX2_88 mo_X2_setPart (sp_X2_setPart (k := 5) hb (by decide) (by decide)) rfl rfl rfl ⟨2, _, (kW0 hb), rfl, rfl⟩ rfl ?_
    refine a_l0 rfl rfl rfl ?_
    refine a_s rfl rfl ?_
    refine a_l1 rfl rfl rfl ?_
    refine a_getiv (v := I a 10) rfl gfX2_98_5 (kS0 ha) (by simp (disch := omega) only [up2_row]) ?_
    refine a_eV0 rfl lX2_88 mo_X2_setPart (sp_X2_setPart (k := 6) hb (by decide) (by decide)) rfl rfl rfl ⟨2, _, (kW0 hb), rfl, rfl⟩ rfl ?_
    refine a_l0 rfl rfl rfl ?_
    refine a_s rfl rfl ?_
    refine a_l1 rfl rfl rfl ?_
    refine a_l2 rfl rfl rfl ?_
    refine a_eV1 rfl lX2_101 mo_X5_leansFreely ((sp_X5_leansFreely ha).cast (r' := some (.int (bI (lfF (I (a + 7)) (I (a + 8)) (nI d))))) (by simp (disch := omega) only [up2_row]) rfl) rfl rfl rfl ⟨5, _, (kS0 ha), rfl, rfl⟩ rfl ?_
    refine a_if_eq rfl (fun c120 => ?_) (fun c120 => ?_)
    · refine a_s rfl rfl ?_
      refine a_eV0 rfl lX2_88 mo_X2_setPart (sp_X2_setPart (k := 7) hb (by decide) (by decide)) rfl rfl rfl ⟨2, _, (kW0 hb), rfl, rfl⟩ rfl ?_
      refine a_l0 rfl rfl rfl ?_
      refine a_s rfl rfl ?_
      refine a_l1 rfl rfl rfl ?_
      refine a_getq rfl gfX2_56_5 (kS0 ha) (rS6 ha) ?_
      refine a_l2 rfl rfl rfl ?_
      refine a_eSN1 rfl lX2_61 mo_X11_at ((sp_X11_at (n := 12) (kS5 ha)).cast (r' := some (.int (I (a + 5) d))) (by (try simp (disch := omega) only [up2_row]); rw [atF_nI (by omega) (by decide)]) rfl) rfl rfl rfl rfl ?_
      refine a_s rfl rfl ?_
      refine a_ic_le rfl (fun c145 => ?_) (fun c145 => ?_)
      · refine a_s rfl rfl ?_
        refine a_eV0 rfl lX2_88 mo_X2_setPart (sp_X2_setPart (k := 8) hb (by decide) (by decide)) rfl rfl rfl ⟨2, _, (kW0 hb), rfl, rfl⟩ rfl ?_
        refine a_vret rfl rfl ⟨rfl, _, rfl, fun q hq => by simp (disch := omega) only [up2_row], fun k hk => by rcases k with _ | _ | _ | _ | _ | _ | _ | _ | _ | k <;> first | omega | (simp_all [up2, factC, bI, bI_0, le_nl, -Int32.not_lt, -Int32.not_le])⟩
      · refine a_s rfl rfl ?_
        refine a_goto rfl ?_
        refine a_eV0 rfl lX2_88 mo_X2_setPart (sp_X2_setPart (k := 8) hb (by decide) (by decide)) rfl rfl rfl ⟨2, _, (kW0 hb), rfl, rfl⟩ rfl ?_
        refine a_vret rfl rfl ⟨rfl, _, rfl, fun q hq => by simp (disch := omega) only [up2_row], fun k hk => by rcases k with _ | _ | _ | _ | _ | _ | _ | _ | _ | k <;> first | omega | (simp_all [up2, factC, bI, bI_0, le_nl, -Int32.not_lt, -Int32.not_le])⟩
    · refine a_s rfl rfl ?_
      refine a_goto rfl ?_
      refine a_eV0 rfl lX2_88 mo_X2_setPart (sp_X2_setPart (k := 7) hb (by decide) (by decide)) rfl rfl rfl ⟨2, _, (kW0 hb), rfl, rfl⟩ rfl ?_
      refine a_l0 rfl rfl rfl ?_
      refine a_s rfl rfl ?_
      refine a_l1 rfl rfl rfl ?_
      refine a_getq rfl gfX2_56_5 (kS0 ha) (rS6 ha) ?_
      refine a_l2 rfl rfl rfl ?_
      refine a_eSN1 rfl lX2_61 mo_X11_at ((sp_X11_at (n := 12) (kS5 ha)).cast (r' := some (.int (I (a + 5) d))) (by (try simp (disch := omega) only [up2_row]); rw [atF_nI (by omega) (by decide)]) rfl) rfl rfl rfl rfl ?_
      refine a_s rfl rfl ?_
      refine a_ic_le rfl (fun c145 => ?_) (fun c145 => ?_)
      · refine a_s rfl rfl ?_
        refine a_eV0 rfl lX2_88 mo_X2_setPart (sp_X2_setPart (k := 8) hb (by decide) (by decide)) rfl rfl rfl ⟨2, _, (kW0 hb), rfl, rfl⟩ rfl ?_
        refine a_vret rfl rfl ⟨rfl, _, rfl, fun q hq => by simp (disch := omega) only [up2_row], fun k hk => by rcases k with _ | _ | _ | _ | _ | _ | _ | _ | _ | k <;> first | omega | (simp_all [up2, factC, bI, bI_0, le_nl, -Int32.not_lt, -Int32.not_le])⟩
      · refine a_s rfl rfl ?_
        refine a_goto rfl ?_
        refine a_eV0 rfl lX2_88 mo_X2_setPart (sp_X2_setPart (k := 8) hb (by decide) (by decide)) rfl rfl rfl ⟨2, _, (kW0 hb), rfl, rfl⟩ rfl ?_
        refine a_vret rfl rfl ⟨rfl, _, rfl, fun q hq => by simp (disch := omega) only [up2_row], fun k hk => by rcases k with _ | _ | _ | _ | _ | _ | _ | _ | _ | k <;> first | omega | (simp_all [up2, factC, bI, bI_0, le_nl, -Int32.not_lt, -Int32.not_le])⟩
  · refine a_s rfl rfl ?_
    refine a_goto rfl ?_
    refine a_eV0 rfl lX2_88 mo_X2_setPart (sp_X2_setPart (k := 3) hb (by decide) (by decide)) rfl rfl rfl ⟨2, _, (kW0 hb), rfl, rfl⟩ rfl ?_
    refine a_l0 rfl rfl rfl ?_
    refine a_s rfl rfl ?_
    refine a_l4 rfl rfl rfl ?_
    refine a_eV0 rfl lX2_88 mo_X2_setPart (sp_X2_setPart (k := 4) hb (by decide) (by decide)) rfl rfl rfl ⟨2, _, (kW0 hb), rfl, rfl⟩ rfl ?_
    refine a_l0 rfl rfl rfl ?_
    refine a_s rfl rfl ?_
    refine a_l1 rfl rfl rfl ?_
    refine a_getq rfl gfX2_95_5 (kS0 ha) (rS1 ha) ?_
    refine a_l4 rfl rfl rfl ?_
    refine a_eSN1 rfl lX2_61 mo_X11_at ((sp_X11_at (n := 6) (kS1 ha)).cast (r' := some (.int (atF (I (a + 1)) 6 (I (a + 3) d)))) (by simp (disch := omega) only [up2_row]) rfl) rfl rfl rfl rfl ?_
    refine a_eV0 rfl lX2_88 mo_X2_setPart (sp_X2_setPart (k := 5) hb (by decide) (by decide)) rfl rfl rfl ⟨2, _, (kW0 hb), rfl, rfl⟩ rfl ?_
    refine a_l0 rfl rfl rfl ?_
    refine a_s rfl rfl ?_
    refine a_l1 rfl rfl rfl ?_
    refine a_getiv (v := I a 10) rfl gfX2_98_5 (kS0 ha) (by simp (disch := omega) only [up2_row]) ?_
    refine a_eV0 rfl lX2_88 mo_X2_setPart (sp_X2_setPart (k := 6) hb (by decide) (by decide)) rfl rfl rfl ⟨2, _, (kW0 hb), rfl, rfl⟩ rfl ?_
    refine a_l0 rfl rfl rfl ?_
    refine a_s rfl rfl ?_
    refine a_l1 rfl rfl rfl ?_
    refine a_l2 rfl rfl rfl ?_
    refine a_eV1 rfl lX2_101 mo_X5_leansFreely ((sp_X5_leansFreely ha).cast (r' := some (.int (bI (lfF (I (a + 7)) (I (a + 8)) (nI d))))) (by simp (disch := omega) only [up2_row]) rfl) rfl rfl rfl ⟨5, _, (kS0 ha), rfl, rfl⟩ rfl ?_
    refine a_if_eq rfl (fun c120 => ?_) (fun c120 => ?_)
    · refine a_s rfl rfl ?_
      refine a_eV0 rfl lX2_88 mo_X2_setPart (sp_X2_setPart (k := 7) hb (by decide) (by decide)) rfl rfl rfl ⟨2, _, (kW0 hb), rfl, rfl⟩ rfl ?_
      refine a_l0 rfl rfl rfl ?_
      refine a_s rfl rfl ?_
      refine a_l1 rfl rfl rfl ?_
      refine a_getq rfl gfX2_56_5 (kS0 ha) (rS6 ha) ?_
      refine a_l2 rfl rfl rfl ?_
      refine a_eSN1 rfl lX2_61 mo_X11_at ((sp_X11_at (n := 12) (kS5 ha)).cast (r' := some (.int (I (a + 5) d))) (by (try simp (disch := omega) only [up2_row]); rw [atF_nI (by omega) (by decide)]) rfl) rfl rfl rfl rfl ?_
      refine a_s rfl rfl ?_
      refine a_ic_le rfl (fun c145 => ?_) (fun c145 => ?_)
      · refine a_s rfl rfl ?_
        refine a_eV0 rfl lX2_88 mo_X2_setPart (sp_X2_setPart (k := 8) hb (by decide) (by decide)) rfl rfl rfl ⟨2, _, (kW0 hb), rfl, rfl⟩ rfl ?_
        refine a_vret rfl rfl ⟨rfl, _, rfl, fun q hq => by simp (disch := omega) only [up2_row], fun k hk => by rcases k with _ | _ | _ | _ | _ | _ | _ | _ | _ | k <;> first | omega | (simp_all [up2, factC, bI, bI_0, le_nl, -Int32.not_lt, -Int32.not_le])⟩
      · refine a_s rfl rfl ?_
        refine a_goto rfl ?_
        refine a_eV0 rfl lX2_88 mo_X2_setPart (sp_X2_setPart (k := 8) hb (by decide) (by decide)) rfl rfl rfl ⟨2, _, (kW0 hb), rfl, rfl⟩ rfl ?_
        refine a_vret rfl rfl ⟨rfl, _, rfl, fun q hq => by simp (disch := omega) only [up2_row], fun k hk => by rcases k with _ | _ | _ | _ | _ | _ | _ | _ | _ | k <;> first | omega | (simp_all [up2, factC, bI, bI_0, le_nl, -Int32.not_lt, -Int32.not_le])⟩
    · refine a_s rfl rfl ?_
      refine a_goto rfl ?_
      refine a_eV0 rfl lX2_88 mo_X2_setPart (sp_X2_setPart (k := 7) hb (by decide) (by decide)) rfl rfl rfl ⟨2, _, (kW0 hb), rfl, rfl⟩ rfl ?_
      refine a_l0 rfl rfl rfl ?_
      refine a_s rfl rfl ?_
      refine a_l1 rfl rfl rfl ?_
      refine a_getq rfl gfX2_56_5 (kS0 ha) (rS6 ha) ?_
      refine a_l2 rfl rfl rfl ?_
      refine a_eSN1 rfl lX2_61 mo_X11_at ((sp_X11_at (n := 12) (kS5 ha)).cast (r' := some (.int (I (a + 5) d))) (by (try simp (disch := omega) only [up2_row]); rw [atF_nI (by omega) (by decide)]) rfl) rfl rfl rfl rfl ?_
      refine a_s rfl rfl ?_
      refine a_ic_le rfl (fun c145 => ?_) (fun c145 => ?_)
      · refine a_s rfl rfl ?_
        refine a_eV0 rfl lX2_88 mo_X2_setPart (sp_X2_setPart (k := 8) hb (by decide) (by decide)) rfl rfl rfl ⟨2, _, (kW0 hb), rfl, rfl⟩ rfl ?_
        refine a_vret rfl rfl ⟨rfl, _, rfl, fun q hq => by simp (disch := omega) only [up2_row], fun k hk => by rcases k with _ | _ | _ | _ | _ | _ | _ | _ | _ | k <;> first | omega | (simp_all [up2, factC, bI, bI_0, le_nl, -Int32.not_lt, -Int32.not_le])⟩
      · refine a_s rfl rfl ?_
        refine a_goto rfl ?_
        refine a_eV0 rfl lX2_88 mo_X2_setPart (sp_X2_setPart (k := 8) hb (by decide) (by decide)) rfl rfl rfl ⟨2, _, (kW0 hb), rfl, rfl⟩ rfl ?_
        refine a_vret rfl rfl ⟨rfl, _, rfl, fun q hq => by simp (disch := omega) only [up2_row], fun k hk => by rcases k with _ | _ | _ | _ | _ | _ | _ | _ | _ | k <;> first | omega | (simp_all [up2, factC, bI, bI_0, le_nl, -Int32.not_lt, -Int32.not_le])⟩
theorem sp_X2_joined_2000 {S : aS} {h : aH} {x y : Int32} : SpE S m_X2_joined 12 [.int (nI 2000), .int x, .int y] (h) (some (.int (jnF 2000 x y))) (h) := by
  refine SpE_of ok_X2_joined rfl rfl ?_
  show AW S m_X2_joined 12 _ _ 0 0 0 [some (.int (nI 2000)), some (.int x), some (.int y)] [] (h)
  refine a_l0 rfl rfl rfl ?_
  refine a_tsw (tg := 36) rfl (by decide) (by decide) ?_
  refine a_l1 rfl rfl rfl ?_
  refine a_l2 rfl rfl rfl ?_
  refine a_s rfl rfl ?_
  refine a_iret rfl rfl ⟨rfl, rfl⟩
theorem sp_X2_joined_2001 {S : aS} {h : aH} {x y : Int32} : SpE S m_X2_joined 12 [.int (nI 2001), .int x, .int y] (h) (some (.int (jnF 2001 x y))) (h) := by
  refine SpE_of ok_X2_joined rfl rfl ?_
  show AW S m_X2_joined 12 _ _ 0 0 0 [some (.int (nI 2001)), some (.int x), some (.int y)] [] (h)
  refine a_l0 rfl rfl rfl ?_
  refine a_tsw (tg := 40) rfl (by decide) (by decide) ?_
  refine a_l1 rfl rfl rfl ?_
  refine a_l2 rfl rfl rfl ?_
  refine a_ic_ge rfl (fun c42 => ?_) (fun c42 => ?_)
  · refine a_s rfl rfl ?_
    refine a_iret rfl rfl ⟨by simp_all [jnF, le_nl, -Int32.not_lt, -Int32.not_le], rfl⟩
  · refine a_s rfl rfl ?_
    refine a_goto rfl ?_
    refine a_iret rfl rfl ⟨by simp_all [jnF, le_nl, -Int32.not_lt, -Int32.not_le], rfl⟩
theorem sp_X2_joined_2002 {S : aS} {h : aH} {x y : Int32} : SpE S m_X2_joined 12 [.int (nI 2002), .int x, .int y] (h) (some (.int (jnF 2002 x y))) (h) := by
  refine SpE_of ok_X2_joined rfl rfl ?_
  show AW S m_X2_joined 12 _ _ 0 0 0 [some (.int (nI 2002)), some (.int x), some (.int y)] [] (h)
  refine a_l0 rfl rfl rfl ?_
  refine a_tsw (tg := 51) rfl (by decide) (by decide) ?_
  refine a_l1 rfl rfl rfl ?_
  refine a_l2 rfl rfl rfl ?_
  refine a_ic_le rfl (fun c53 => ?_) (fun c53 => ?_)
  · refine a_s rfl rfl ?_
    refine a_iret rfl rfl ⟨by simp_all [jnF, le_nl, -Int32.not_lt, -Int32.not_le], rfl⟩
  · refine a_s rfl rfl ?_
    refine a_goto rfl ?_
    refine a_iret rfl rfl ⟨by simp_all [jnF, le_nl, -Int32.not_lt, -Int32.not_le], rfl⟩
theorem sp_X2_joined_2004 {S : aS} {h : aH} {x y : Int32} : SpE S m_X2_joined 12 [.int (nI 2004), .int x, .int y] (h) (some (.int (jnF 2004 x y))) (h) := by
  refine SpE_of ok_X2_joined rfl rfl ?_
  show AW S m_X2_joined 12 _ _ 0 0 0 [some (.int (nI 2004)), some (.int x), some (.int y)] [] (h)
  refine a_l0 rfl rfl rfl ?_
  refine a_tsw (tg := 62) rfl (by decide) (by decide) ?_
  refine a_l1 rfl rfl rfl ?_
  refine a_l2 rfl rfl rfl ?_
  refine a_s rfl rfl ?_
  refine a_iret rfl rfl ⟨rfl, rfl⟩
theorem sp_X2_joined_2005 {S : aS} {h : aH} {x y : Int32} : SpE S m_X2_joined 12 [.int (nI 2005), .int x, .int y] (h) (some (.int (jnF 2005 x y))) (h) := by
  refine SpE_of ok_X2_joined rfl rfl ?_
  show AW S m_X2_joined 12 _ _ 0 0 0 [some (.int (nI 2005)), some (.int x), some (.int y)] [] (h)
  refine a_l0 rfl rfl rfl ?_
  refine a_tsw (tg := 66) rfl (by decide) (by decide) ?_
  refine a_l1 rfl rfl rfl ?_
  refine a_l2 rfl rfl rfl ?_
  refine a_s rfl rfl ?_
  refine a_iret rfl rfl ⟨rfl, rfl⟩
