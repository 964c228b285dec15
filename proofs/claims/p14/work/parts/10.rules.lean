section
/-! ===== the rules of AW: stack and numbers ===== -/
section A4
variable {S : aS} {C : aM} {d : Nat} {Q : Option Value → aH → Prop} {X : String → aH → Prop} {k1 k2 pc np tgt : Nat} {w : Int32} {ls ls' : List (Option Value)} {st st' : List Value} {h : aH} {ins : Instr}
theorem okd {C : aM} {pc np tgt : Nat} {w : Int32} {ins : Instr} (hO : OkM C) (hC : look C pc = some (ins, np, tgt, w)) {n : Nat} (hn : ilen ins = n + 1) : decode C.2.1 pc = .ok (ins, n + 1) ∧ np = pc + (n + 1) ∧ okX pc (ins, np, tgt, w) = true := by
  obtain ⟨h1, -, h3⟩ := hO _ _ hC
  rcases h1 with h1 | ⟨h1, h2⟩
  · exact absurd h1 (by simp only; omega)
  · simp only [hn] at h1 h2
    exact ⟨h1, h2, h3⟩
/-- what an instruction does to the stack alone -/
def sst (ins : Instr) (w : Int32) (st : List Value) : Option (List Value) := match ins, st with
  | .iconst _, st => some (.int w :: st)
  | .bipush _, st => some (.int w :: st)
  | .sipush _, st => some (.int w :: st)
  | .lconst 0, st => some (.long 0 :: st)
  | .lconst 1, st => some (.long 1 :: st)
  | .aconst_null, st => some (.null :: st)
  | .iadd, .int y :: .int x :: r => some (.int (x + y) :: r)
  | .isub, .int y :: .int x :: r => some (.int (x - y) :: r)
  | .imul, .int y :: .int x :: r => some (.int (x * y) :: r)
  | .iand, .int y :: .int x :: r => some (.int (x &&& y) :: r)
  | .ior, .int y :: .int x :: r => some (.int (x ||| y) :: r)
  | .ixor, .int y :: .int x :: r => some (.int (x ^^^ y) :: r)
  | .ineg, .int x :: r => some (.int (-x) :: r)
  | .ishl, .int y :: .int x :: r => some (.int (x <<< (y &&& 31)) :: r)
  | .ishr, .int y :: .int x :: r => some (.int (x >>> (y &&& 31)) :: r)
  | .iushr, .int y :: .int x :: r => some (.int (x.toUInt32 >>> (y.toUInt32 &&& Int32.toUInt32 31)).toInt32 :: r)
  | .ladd, .long y :: .long x :: r => some (.long (x + y) :: r)
  | .lsub, .long y :: .long x :: r => some (.long (x - y) :: r)
  | .lmul, .long y :: .long x :: r => some (.long (x * y) :: r)
  | .lcmp, .long y :: .long x :: r => some (.int (lg_cmp x y) :: r)
  | .i2l, .int x :: r => some (.long x.toInt64 :: r)
  | .l2i, .long x :: r => some (.int x.toInt32 :: r)
  | .i2b, .int x :: r => some (.int x.toInt8.toInt32 :: r)
  | .dup, .int x :: r => some (.int x :: .int x :: r)
  | .dup, .ref x :: r => some (.ref x :: .ref x :: r)
  | .dup, .null :: r => some (.null :: .null :: r)
  | .pop, .int _ :: r => some r
  | .pop, .ref _ :: r => some r
  | .pop, .null :: r => some r
  | .dup2, .int y :: .ref x :: r => some (.int y :: .ref x :: .int y :: .ref x :: r)
  | .dup2, .int y :: .int x :: r => some (.int y :: .int x :: .int y :: .int x :: r)
  | .dup2, .long x :: r => some (.long x :: .long x :: r)
  | _, _ => none
set_option maxHeartbeats 4000000 in
theorem a_s (hC : look C pc = some (ins, np, tgt, w)) (hs : sst ins w st = some st') (k : AW S C d Q X k1 k2 np ls st' h) : AW S C d Q X k1 k2 pc ls st h := by
  intro p l e s m args below meth c H la locs cells slots mc ms G CC hS hL hR hF h1 h2
  have K := k p l e s m args below meth c H la locs cells slots mc ms G CC hS hL hR hF h1 h2
  have hx := CC.1
  have hb := CC.2.1
  have hO := CC.2.2.2.2.2.2.2.2.2
  clear CC
  unfold sst at hs
  split at hs <;> first | (cases hs; done) | (cases hs; obtain ⟨hd, rfl, ho⟩ := okd hO hC rfl)

  · exact lv_iconst hx hb hd (of_decide_eq_true ho) K
  · exact lv_bipush hx hb hd (of_decide_eq_true ho) K
  · exact lv_sipush hx hb hd (of_decide_eq_true ho) K
  · exact lv_lconst (v := 0) hx hb hd rfl K
  · exact lv_lconst (v := 1) hx hb hd rfl K
  · exact lv_null hx hb hd K
  · exact lv_iadd hx hb hd K
  · exact lv_isub hx hb hd K
  · exact lv_imul hx hb hd K
  · exact lv_iand hx hb hd K
  · exact lv_ior hx hb hd K
  · exact lv_ixor hx hb hd K
  · exact lv_ineg hx hb hd K
  · exact lv_ishl hx hb hd K
  · exact lv_ishr hx hb hd K
  · exact lv_iushr hx hb hd rfl K
  · exact lv_ladd hx hb hd K
  · exact lv_lsub hx hb hd K
  · exact lv_lmul hx hb hd K
  · exact W.lcmp hx hb hd K
  · exact lv_i2l hx hb hd rfl K
  · exact lv_l2i hx hb hd rfl K
  · exact lv_i2b hx hb hd rfl K
  · exact lv_dup hx hb hd rfl K
  · exact lv_dup hx hb hd rfl K
  · exact lv_dup hx hb hd rfl K
  · exact lv_pop hx hb hd rfl K
  · exact lv_pop hx hb hd rfl K
  · exact lv_pop hx hb hd rfl K
  · exact lv_dup2_11 hx hb hd rfl rfl K
  · exact lv_dup2_11 hx hb hd rfl rfl K
  · exact lv_dup2_2 hx hb hd rfl K
theorem a_idiv {x y : Int32} {r : List Value} (hC : look C pc = some (.idiv, np, tgt, w)) (hy : ¬ y = 0) (k : AW S C d Q X k1 k2 np ls (.int (x / y) :: r) h) : AW S C d Q X k1 k2 pc ls (.int y :: .int x :: r) h := by
  intro p l e s m args below meth c H la locs cells slots mc ms G CC hS hL hR hF h1 h2
  have K := k p l e s m args below meth c H la locs cells slots mc ms G CC hS hL hR hF h1 h2
  obtain ⟨hd, rfl, -⟩ := okd CC.2.2.2.2.2.2.2.2.2 hC rfl
  exact lv_idiv CC.1 CC.2.1 hd hy K
theorem a_irem {x y : Int32} {r : List Value} (hC : look C pc = some (.irem, np, tgt, w)) (hy : ¬ y = 0) (k : AW S C d Q X k1 k2 np ls (.int (x - x / y * y) :: r) h) : AW S C d Q X k1 k2 pc ls (.int y :: .int x :: r) h := by
  intro p l e s m args below meth c H la locs cells slots mc ms G CC hS hL hR hF h1 h2
  have K := k p l e s m args below meth c H la locs cells slots mc ms G CC hS hL hR hF h1 h2
  obtain ⟨hd, rfl, -⟩ := okd CC.2.2.2.2.2.2.2.2.2 hC rfl
  exact lv_irem CC.1 CC.2.1 hd hy K
theorem a_ldiv {x y : Int64} {r : List Value} (hC : look C pc = some (.ldiv, np, tgt, w)) (hy : ¬ y = 0) (k : AW S C d Q X k1 k2 np ls (.long (x / y) :: r) h) : AW S C d Q X k1 k2 pc ls (.long y :: .long x :: r) h := by
  intro p l e s m args below meth c H la locs cells slots mc ms G CC hS hL hR hF h1 h2
  have K := k p l e s m args below meth c H la locs cells slots mc ms G CC hS hL hR hF h1 h2
  obtain ⟨hd, rfl, -⟩ := okd CC.2.2.2.2.2.2.2.2.2 hC rfl
  exact lv_ldiv CC.1 CC.2.1 hd hy K
theorem a_goto {off : Int} (hC : look C pc = some (.goto off, np, tgt, w)) (k : AW S C d Q X k1 k2 tgt ls st h) : AW S C d Q X k1 k2 pc ls st h := by
  intro p l e s m args below meth c H la locs cells slots mc ms G CC hS hL hR hF h1 h2
  have K := k p l e s m args below meth c H la locs cells slots mc ms G CC hS hL hR hF h1 h2
  obtain ⟨hd, -, ho⟩ := okd CC.2.2.2.2.2.2.2.2.2 hC rfl
  exact lv_goto CC.1 CC.2.1 hd (of_decide_eq_true ho) K
theorem a_if_eq {x : Int32} {off : Int} (hC : look C pc = some (.ifCond .eq off, np, tgt, w)) (kt : x = 0 → AW S C d Q X k1 k2 tgt ls st h) (kf : ¬ x = 0 → AW S C d Q X k1 k2 np ls st h) : AW S C d Q X k1 k2 pc ls (.int x :: st) h := by
  intro p l e s m args below meth c H la locs cells slots mc ms G CC hS hL hR hF h1 h2
  obtain ⟨hd, rfl, ho⟩ := okd CC.2.2.2.2.2.2.2.2.2 hC rfl
  exact lv_if_eq CC.1 CC.2.1 hd (of_decide_eq_true ho) (fun q => kt q p l e s m args below meth c H la locs cells slots mc ms G CC hS hL hR hF h1 h2) (fun q => kf q p l e s m args below meth c H la locs cells slots mc ms G CC hS hL hR hF h1 h2)
theorem a_if_ne {x : Int32} {off : Int} (hC : look C pc = some (.ifCond .ne off, np, tgt, w)) (kt : ¬ x = 0 → AW S C d Q X k1 k2 tgt ls st h) (kf : x = 0 → AW S C d Q X k1 k2 np ls st h) : AW S C d Q X k1 k2 pc ls (.int x :: st) h := by
  intro p l e s m args below meth c H la locs cells slots mc ms G CC hS hL hR hF h1 h2
  obtain ⟨hd, rfl, ho⟩ := okd CC.2.2.2.2.2.2.2.2.2 hC rfl
  exact lv_if_ne CC.1 CC.2.1 hd (of_decide_eq_true ho) (fun q => kt q p l e s m args below meth c H la locs cells slots mc ms G CC hS hL hR hF h1 h2) (fun q => kf q p l e s m args below meth c H la locs cells slots mc ms G CC hS hL hR hF h1 h2)
theorem a_if_lt {x : Int32} {off : Int} (hC : look C pc = some (.ifCond .lt off, np, tgt, w)) (kt : x < 0 → AW S C d Q X k1 k2 tgt ls st h) (kf : ¬ x < 0 → AW S C d Q X k1 k2 np ls st h) : AW S C d Q X k1 k2 pc ls (.int x :: st) h := by
  intro p l e s m args below meth c H la locs cells slots mc ms G CC hS hL hR hF h1 h2
  obtain ⟨hd, rfl, ho⟩ := okd CC.2.2.2.2.2.2.2.2.2 hC rfl
  exact lv_if_lt CC.1 CC.2.1 hd (of_decide_eq_true ho) (fun q => kt q p l e s m args below meth c H la locs cells slots mc ms G CC hS hL hR hF h1 h2) (fun q => kf q p l e s m args below meth c H la locs cells slots mc ms G CC hS hL hR hF h1 h2)
theorem a_if_ge {x : Int32} {off : Int} (hC : look C pc = some (.ifCond .ge off, np, tgt, w)) (kt : 0 ≤ x → AW S C d Q X k1 k2 tgt ls st h) (kf : ¬ 0 ≤ x → AW S C d Q X k1 k2 np ls st h) : AW S C d Q X k1 k2 pc ls (.int x :: st) h := by
  intro p l e s m args below meth c H la locs cells slots mc ms G CC hS hL hR hF h1 h2
  obtain ⟨hd, rfl, ho⟩ := okd CC.2.2.2.2.2.2.2.2.2 hC rfl
  exact lv_if_ge CC.1 CC.2.1 hd (of_decide_eq_true ho) (fun q => kt q p l e s m args below meth c H la locs cells slots mc ms G CC hS hL hR hF h1 h2) (fun q => kf q p l e s m args below meth c H la locs cells slots mc ms G CC hS hL hR hF h1 h2)
theorem a_if_gt {x : Int32} {off : Int} (hC : look C pc = some (.ifCond .gt off, np, tgt, w)) (kt : 0 < x → AW S C d Q X k1 k2 tgt ls st h) (kf : ¬ 0 < x → AW S C d Q X k1 k2 np ls st h) : AW S C d Q X k1 k2 pc ls (.int x :: st) h := by
  intro p l e s m args below meth c H la locs cells slots mc ms G CC hS hL hR hF h1 h2
  obtain ⟨hd, rfl, ho⟩ := okd CC.2.2.2.2.2.2.2.2.2 hC rfl
  exact lv_if_gt CC.1 CC.2.1 hd (of_decide_eq_true ho) (fun q => kt q p l e s m args below meth c H la locs cells slots mc ms G CC hS hL hR hF h1 h2) (fun q => kf q p l e s m args below meth c H la locs cells slots mc ms G CC hS hL hR hF h1 h2)
theorem a_if_le {x : Int32} {off : Int} (hC : look C pc = some (.ifCond .le off, np, tgt, w)) (kt : x ≤ 0 → AW S C d Q X k1 k2 tgt ls st h) (kf : ¬ x ≤ 0 → AW S C d Q X k1 k2 np ls st h) : AW S C d Q X k1 k2 pc ls (.int x :: st) h := by
  intro p l e s m args below meth c H la locs cells slots mc ms G CC hS hL hR hF h1 h2
  obtain ⟨hd, rfl, ho⟩ := okd CC.2.2.2.2.2.2.2.2.2 hC rfl
  exact lv_if_le CC.1 CC.2.1 hd (of_decide_eq_true ho) (fun q => kt q p l e s m args below meth c H la locs cells slots mc ms G CC hS hL hR hF h1 h2) (fun q => kf q p l e s m args below meth c H la locs cells slots mc ms G CC hS hL hR hF h1 h2)
theorem a_ic_eq {x y : Int32} {off : Int} (hC : look C pc = some (.if_icmp .eq off, np, tgt, w)) (kt : x = y → AW S C d Q X k1 k2 tgt ls st h) (kf : ¬ x = y → AW S C d Q X k1 k2 np ls st h) : AW S C d Q X k1 k2 pc ls (.int y :: .int x :: st) h := by
  intro p l e s m args below meth c H la locs cells slots mc ms G CC hS hL hR hF h1 h2
  obtain ⟨hd, rfl, ho⟩ := okd CC.2.2.2.2.2.2.2.2.2 hC rfl
  exact lv_icmp_eq CC.1 CC.2.1 hd (of_decide_eq_true ho) (fun q => kt q p l e s m args below meth c H la locs cells slots mc ms G CC hS hL hR hF h1 h2) (fun q => kf q p l e s m args below meth c H la locs cells slots mc ms G CC hS hL hR hF h1 h2)
theorem a_ic_ne {x y : Int32} {off : Int} (hC : look C pc = some (.if_icmp .ne off, np, tgt, w)) (kt : ¬ x = y → AW S C d Q X k1 k2 tgt ls st h) (kf : x = y → AW S C d Q X k1 k2 np ls st h) : AW S C d Q X k1 k2 pc ls (.int y :: .int x :: st) h := by
  intro p l e s m args below meth c H la locs cells slots mc ms G CC hS hL hR hF h1 h2
  obtain ⟨hd, rfl, ho⟩ := okd CC.2.2.2.2.2.2.2.2.2 hC rfl
  exact lv_icmp_ne CC.1 CC.2.1 hd (of_decide_eq_true ho) (fun q => kt q p l e s m args below meth c H la locs cells slots mc ms G CC hS hL hR hF h1 h2) (fun q => kf q p l e s m args below meth c H la locs cells slots mc ms G CC hS hL hR hF h1 h2)
theorem a_ic_lt {x y : Int32} {off : Int} (hC : look C pc = some (.if_icmp .lt off, np, tgt, w)) (kt : x < y → AW S C d Q X k1 k2 tgt ls st h) (kf : ¬ x < y → AW S C d Q X k1 k2 np ls st h) : AW S C d Q X k1 k2 pc ls (.int y :: .int x :: st) h := by
  intro p l e s m args below meth c H la locs cells slots mc ms G CC hS hL hR hF h1 h2
  obtain ⟨hd, rfl, ho⟩ := okd CC.2.2.2.2.2.2.2.2.2 hC rfl
  exact lv_icmp_lt CC.1 CC.2.1 hd (of_decide_eq_true ho) (fun q => kt q p l e s m args below meth c H la locs cells slots mc ms G CC hS hL hR hF h1 h2) (fun q => kf q p l e s m args below meth c H la locs cells slots mc ms G CC hS hL hR hF h1 h2)
theorem a_ic_ge {x y : Int32} {off : Int} (hC : look C pc = some (.if_icmp .ge off, np, tgt, w)) (kt : y ≤ x → AW S C d Q X k1 k2 tgt ls st h) (kf : ¬ y ≤ x → AW S C d Q X k1 k2 np ls st h) : AW S C d Q X k1 k2 pc ls (.int y :: .int x :: st) h := by
  intro p l e s m args below meth c H la locs cells slots mc ms G CC hS hL hR hF h1 h2
  obtain ⟨hd, rfl, ho⟩ := okd CC.2.2.2.2.2.2.2.2.2 hC rfl
  exact lv_icmp_ge CC.1 CC.2.1 hd (of_decide_eq_true ho) (fun q => kt q p l e s m args below meth c H la locs cells slots mc ms G CC hS hL hR hF h1 h2) (fun q => kf q p l e s m args below meth c H la locs cells slots mc ms G CC hS hL hR hF h1 h2)
theorem a_ic_gt {x y : Int32} {off : Int} (hC : look C pc = some (.if_icmp .gt off, np, tgt, w)) (kt : y < x → AW S C d Q X k1 k2 tgt ls st h) (kf : ¬ y < x → AW S C d Q X k1 k2 np ls st h) : AW S C d Q X k1 k2 pc ls (.int y :: .int x :: st) h := by
  intro p l e s m args below meth c H la locs cells slots mc ms G CC hS hL hR hF h1 h2
  obtain ⟨hd, rfl, ho⟩ := okd CC.2.2.2.2.2.2.2.2.2 hC rfl
  exact lv_icmp_gt CC.1 CC.2.1 hd (of_decide_eq_true ho) (fun q => kt q p l e s m args below meth c H la locs cells slots mc ms G CC hS hL hR hF h1 h2) (fun q => kf q p l e s m args below meth c H la locs cells slots mc ms G CC hS hL hR hF h1 h2)
theorem a_ic_le {x y : Int32} {off : Int} (hC : look C pc = some (.if_icmp .le off, np, tgt, w)) (kt : x ≤ y → AW S C d Q X k1 k2 tgt ls st h) (kf : ¬ x ≤ y → AW S C d Q X k1 k2 np ls st h) : AW S C d Q X k1 k2 pc ls (.int y :: .int x :: st) h := by
  intro p l e s m args below meth c H la locs cells slots mc ms G CC hS hL hR hF h1 h2
  obtain ⟨hd, rfl, ho⟩ := okd CC.2.2.2.2.2.2.2.2.2 hC rfl
  exact lv_icmp_le CC.1 CC.2.1 hd (of_decide_eq_true ho) (fun q => kt q p l e s m args below meth c H la locs cells slots mc ms G CC hS hL hR hF h1 h2) (fun q => kf q p l e s m args below meth c H la locs cells slots mc ms G CC hS hL hR hF h1 h2)
theorem a_ifnull_t {off : Int} (hC : look C pc = some (.ifnull off, np, tgt, w)) (k : AW S C d Q X k1 k2 tgt ls st h) : AW S C d Q X k1 k2 pc ls (.null :: st) h := by
  intro p l e s m args below meth c H la locs cells slots mc ms G CC hS hL hR hF h1 h2
  obtain ⟨hd, rfl, ho⟩ := okd CC.2.2.2.2.2.2.2.2.2 hC rfl
  exact lv_ifnullN CC.1 CC.2.1 hd (of_decide_eq_true ho) (k p l e s m args below meth c H la locs cells slots mc ms G CC hS hL hR hF h1 h2)
theorem a_ifnull_f {off : Int} {x : Nat} (hC : look C pc = some (.ifnull off, np, tgt, w)) (k : AW S C d Q X k1 k2 np ls st h) : AW S C d Q X k1 k2 pc ls (.ref x :: st) h := by
  intro p l e s m args below meth c H la locs cells slots mc ms G CC hS hL hR hF h1 h2
  obtain ⟨hd, rfl, ho⟩ := okd CC.2.2.2.2.2.2.2.2.2 hC rfl
  exact lv_ifnull CC.1 CC.2.1 hd (k p l e s m args below meth c H la locs cells slots mc ms G CC hS hL hR hF h1 h2)
theorem a_ifnonnull_f {off : Int} (hC : look C pc = some (.ifnonnull off, np, tgt, w)) (k : AW S C d Q X k1 k2 np ls st h) : AW S C d Q X k1 k2 pc ls (.null :: st) h := by
  intro p l e s m args below meth c H la locs cells slots mc ms G CC hS hL hR hF h1 h2
  obtain ⟨hd, rfl, ho⟩ := okd CC.2.2.2.2.2.2.2.2.2 hC rfl
  exact lv_ifnonnullN CC.1 CC.2.1 hd (k p l e s m args below meth c H la locs cells slots mc ms G CC hS hL hR hF h1 h2)
theorem a_ifnonnull_t {off : Int} {x : Nat} (hC : look C pc = some (.ifnonnull off, np, tgt, w)) (k : AW S C d Q X k1 k2 tgt ls st h) : AW S C d Q X k1 k2 pc ls (.ref x :: st) h := by
  intro p l e s m args below meth c H la locs cells slots mc ms G CC hS hL hR hF h1 h2
  obtain ⟨hd, rfl, ho⟩ := okd CC.2.2.2.2.2.2.2.2.2 hC rfl
  exact lv_ifnonnull CC.1 CC.2.1 hd (of_decide_eq_true ho) (k p l e s m args below meth c H la locs cells slots mc ms G CC hS hL hR hF h1 h2)
/-- 'a.word != Word.X': words are constants, apart or null; rx, ry as reference numbers -/
theorem a_acmp_ne {rx ry : Nat} {off : Int} (hC : look C pc = some (.if_acmp .ne off, np, tgt, w)) (hx : rx = 0 ∨ ∃ E, (rx - 1, E) ∈ S.2.1) (hy : ry = 0 ∨ ∃ E, (ry - 1, E) ∈ S.2.1) (kt : ¬ rx = ry → AW S C d Q X k1 k2 tgt ls st h) (kf : rx = ry → AW S C d Q X k1 k2 np ls st h) : AW S C d Q X k1 k2 pc ls (rv ry :: rv rx :: st) h := by
  intro p l e s m args below meth c H la locs cells slots mc ms G CC hS hL hR hF h1 h2
  obtain ⟨hd, rfl, ho⟩ := okd CC.2.2.2.2.2.2.2.2.2 hC rfl
  have inj := hS.2.2.2.2.2.2.1
  simp only [List.map_cons, mv_rf]
  have key : rfo G rx = rfo G ry ↔ rx = ry := by
    constructor
    · intro he
      rcases rx with _ | a <;> rcases ry with _ | b
      · rfl
      · cases he
      · cases he
      · rcases hx with hx | ⟨E, hx⟩
        · cases hx
        · rcases hy with hy | ⟨E', hy⟩
          · cases hy
          · exact congrArg (· + 1) (inj (a, E) (b, E') hx hy (Option.some.inj he))
    · intro he
      rw [he]
  exact lv_acmp_ne CC.1 CC.2.1 hd (of_decide_eq_true ho) (fun q => kt (fun z => q (key.mpr z)) p l e s m args below meth c H la locs cells slots mc ms G CC hS hL hR hF h1 h2) (fun q => kf (key.mp q) p l e s m args below meth c H la locs cells slots mc ms G CC hS hL hR hF h1 h2)
end A4
end
section
/-! ===== the rules of AW: locals ===== -/
def kill : Option Value → Option Value
  | some (.long _) => none
  | some (.double _) => none
  | o => o
def lset : List (Option Value) → Nat → Value → List (Option Value)
  | [], _, _ => []
  | _ :: r, 0, v => some v :: r
  | a :: r, 1, v => kill a :: lset r 0 v
  | a :: r, n + 2, v => a :: lset r (n + 1) v
def lset0 : List (Option Value) → Int64 → List (Option Value)
  | _ :: _ :: r, x => some (.long x) :: none :: r
  | _, _ => []
def lsetL (l : List (Option Value)) (i : Nat) (x : Int64) : List (Option Value) := match i, l with
  | 0, l => lset0 l x
  | _, [] => []
  | 1, a :: r => kill a :: lset0 r x
  | n + 2, a :: r => a :: lsetL r (n + 1) x
def notLong : Option Value → Bool
  | some (.long _) => false
  | some (.double _) => false
  | _ => true
theorem kill_id {a : Option Value} (h : notLong a = true) : kill a = a := by
  rcases a with _ | v
  · rfl
  · cases v <;> first | rfl | (cases h; done)
theorem kill_some {a : Option Value} {v : Value} (h : kill a = some v) : a = some v ∧ v.category = 1 := by
  rcases a with _ | x
  · cases h
  · cases x <;> first | (cases h; done) | (cases h; exact ⟨rfl, rfl⟩)
theorem lg_lset {ls : List (Option Value)} {i j : Nat} {v x : Value} (h : lg (lset ls i v) j = some x) : (j = i ∧ x = v) ∨ (j ≠ i ∧ lg ls j = some x ∧ ¬ (j + 1 = i ∧ x.category = 2)) := by
  induction ls generalizing i j with
  | nil => simp [lset, lg] at h
  | cons a r ih =>
    rcases i with _ | _ | i
    · rcases j with _ | j
      · simp only [lset, lg] at h
        cases h
        exact Or.inl ⟨rfl, rfl⟩
      · exact Or.inr ⟨by omega, h, by omega⟩
    · rcases j with _ | j
      · simp only [lset, lg] at h
        obtain ⟨h1, h2⟩ := kill_some h
        exact Or.inr ⟨by omega, h1, by omega⟩
      · simp only [lset, lg] at h
        rcases ih h with ⟨h1, h2⟩ | ⟨h1, h2, h3⟩
        · exact Or.inl ⟨by omega, h2⟩
        · exact Or.inr ⟨by omega, h2, by omega⟩
    · rcases j with _ | j
      · exact Or.inr ⟨by omega, h, by omega⟩
      · simp only [lset, lg] at h
        rcases ih h with ⟨h1, h2⟩ | ⟨h1, h2, h3⟩
        · exact Or.inl ⟨by omega, h2⟩
        · exact Or.inr ⟨by omega, h2, fun z => h3 ⟨by omega, z.2⟩⟩
theorem lg_lsetL {ls : List (Option Value)} {i j : Nat} {v : Int64} {x : Value} (h : lg (lsetL ls i v) j = some x) : (j = i ∧ x = .long v) ∨ (j ≠ i ∧ j ≠ i + 1 ∧ lg ls j = some x ∧ ¬ (j + 1 = i ∧ x.category = 2)) := by
  have base : ∀ {l : List (Option Value)} {j : Nat}, lg (lset0 l v) j = some x → (j = 0 ∧ x = .long v) ∨ (1 < j ∧ lg l j = some x) := by
    intro l j h
    rcases l with _ | ⟨a, _ | ⟨b, r⟩⟩
    · simp [lset0, lg] at h
    · simp [lset0, lg] at h
    · rcases j with _ | _ | j
      · simp only [lset0, lg] at h
        cases h
        exact Or.inl ⟨rfl, rfl⟩
      · simp [lset0, lg] at h
      · exact Or.inr ⟨by omega, h⟩
  induction i using Nat.strongRecOn generalizing ls j with
  | _ i ih =>
    rcases i with _ | _ | i
    · have h : lg (lset0 ls v) j = some x := by cases ls <;> exact h
      rcases base h with ⟨h1, h2⟩ | ⟨h1, h2⟩
      · exact Or.inl ⟨h1, h2⟩
      · exact Or.inr ⟨by omega, by omega, h2, by omega⟩
    · rcases ls with _ | ⟨a, r⟩
      · simp [lsetL, lg] at h
      · have h : lg (kill a :: lset0 r v) j = some x := h
        rcases j with _ | j
        · obtain ⟨h1, h2⟩ := kill_some h
          exact Or.inr ⟨by omega, by omega, h1, by omega⟩
        · rcases base (show lg (lset0 r v) j = some x from h) with ⟨h1, h2⟩ | ⟨h1, h2⟩
          · exact Or.inl ⟨by omega, h2⟩
          · exact Or.inr ⟨by omega, by omega, h2, by omega⟩
    · rcases ls with _ | ⟨a, r⟩
      · simp [lsetL, lg] at h
      · have h : lg (a :: lsetL r (i + 1) v) j = some x := by rw [lsetL] at h; exact h
        rcases j with _ | j
        · exact Or.inr ⟨by omega, by omega, h, by omega⟩
        · rcases ih (i + 1) (by omega) (show lg (lsetL r (i + 1) v) j = some x from h) with ⟨h1, h2⟩ | ⟨h1, h2, h3, h4⟩
          · exact Or.inl ⟨by omega, h2⟩
          · exact Or.inr ⟨by omega, by omega, h3, fun z => h4 ⟨by omega, z.2⟩⟩
def llO (G : aG) : Nat → List (Option Value) → List (Nat × Value)
  | _, [] => []
  | n, none :: r => llO G (n + 1) r
  | n, some v :: r => (n, mv G v) :: llO G (n + 1) r
theorem llO_mem {G : aG} {n : Nat} {ls : List (Option Value)} {q : Nat × Value} : q ∈ llO G n ls ↔ ∃ i v, lg ls i = some v ∧ q = (n + i, mv G v) := by
  induction ls generalizing n with
  | nil => simp [llO, lg]
  | cons a r ih =>
    have sh : (∃ i v, lg r i = some v ∧ q = (n + 1 + i, mv G v)) ↔ ∃ i v, lg (a :: r) (i + 1) = some v ∧ q = (n + (i + 1), mv G v) := by
      constructor
      · rintro ⟨i, v, h1, h2⟩
        exact ⟨i, v, h1, by rw [h2]; simp; omega⟩
      · rintro ⟨i, v, h1, h2⟩
        exact ⟨i, v, h1, by rw [h2]; simp; omega⟩
    cases a with
    | none =>
      rw [llO, ih, sh]
      constructor
      · rintro ⟨i, v, h⟩
        exact ⟨i + 1, v, h⟩
      · rintro ⟨i, v, h1, h2⟩
        rcases i with _ | i
        · simp [lg] at h1
        · exact ⟨i, v, h1, h2⟩
    | some x =>
      rw [llO, List.mem_cons, ih, sh]
      constructor
      · rintro (h | ⟨i, v, h⟩)
        · exact ⟨0, x, rfl, h⟩
        · exact ⟨i + 1, v, h⟩
      · rintro ⟨i, v, h1, h2⟩
        rcases i with _ | i
        · simp only [lg] at h1
          cases h1
          exact Or.inl h2
        · exact Or.inr ⟨i, v, h1, h2⟩
theorem HL.has {G : aG} {la : Array Slot} {nL : Nat} {ls : List (Option Value)} (h : HL G la nL ls) : lv_has la nL (llO G 0 ls) := by
  refine ⟨h.1, h.2.1, fun q hq => ?_⟩
  obtain ⟨i, v, h1, rfl⟩ := llO_mem.mp hq
  simpa using h.2.2 i v h1
theorem HL.st {G : aG} {la' : Array Slot} {nL i : Nat} {v : Value} {ls : List (Option Value)} (h : lv_has la' nL ((i, mv G v) :: (llO G 0 ls).filter (fun q => !(q.1 == i) && !(q.1 + 1 == i && q.2.category == 2)))) : HL G la' nL (lset ls i v) := by
  refine ⟨h.1, h.2.1, fun j x hj => ?_⟩
  rcases lg_lset hj with ⟨rfl, rfl⟩ | ⟨h1, h2, h3⟩
  · exact h.2.2 (j, mv G x) List.mem_cons_self
  · refine h.2.2 (j, mv G x) (List.mem_cons_of_mem _ (List.mem_filter.mpr ⟨llO_mem.mpr ⟨j, x, h2, by simp⟩, ?_⟩))
    simp only [Bool.and_eq_true, Bool.not_eq_true', beq_eq_false_iff_ne, ne_eq, Bool.and_eq_false_iff, mv_cat]
    refine ⟨h1, ?_⟩
    by_cases q : j + 1 = i
    · exact Or.inr fun z => h3 ⟨q, z⟩
    · exact Or.inl q
theorem HL.stL {G : aG} {la' : Array Slot} {nL i : Nat} {v : Int64} {ls : List (Option Value)} (h : lv_has la' nL ((i, .long v) :: (llO G 0 ls).filter (fun q => !(q.1 == i) && (!(q.1 == i + 1) && !(q.1 + 1 == i && q.2.category == 2))))) : HL G la' nL (lsetL ls i v) := by
  refine ⟨h.1, h.2.1, fun j x hj => ?_⟩
  rcases lg_lsetL hj with ⟨rfl, rfl⟩ | ⟨h1, h2, h3, h4⟩
  · exact h.2.2 (j, .long v) List.mem_cons_self
  · refine h.2.2 (j, mv G x) (List.mem_cons_of_mem _ (List.mem_filter.mpr ⟨llO_mem.mpr ⟨j, x, h3, by simp⟩, ?_⟩))
    simp only [Bool.and_eq_true, Bool.not_eq_true', beq_eq_false_iff_ne, ne_eq, Bool.and_eq_false_iff, mv_cat]
    refine ⟨h1, h2, ?_⟩
    by_cases q : j + 1 = i
    · exact Or.inr fun z => h4 ⟨q, z⟩
    · exact Or.inl q
theorem HL.sub {G : aG} {la : Array Slot} {nL : Nat} {ls ls' : List (Option Value)} (h : HL G la nL ls) (hs : ∀ (i : Nat) (v : Value), lg ls' i = some v → lg ls i = some v) : HL G la nL ls' := ⟨h.1, h.2.1, fun i v hi => h.2.2 i v (hs i v hi)⟩
/-- loads and stores: which local, of which kind (0 int, 1 reference, 2 long) -/
def ldI : Instr → Option (Nat × Nat)
  | .iload i => some (i, 0)
  | .iload_n i => some (i.val, 0)
  | .aload i => some (i, 1)
  | .aload_n i => some (i.val, 1)
  | .lload i => some (i, 2)
  | .lload_n i => some (i.val, 2)
  | _ => none
def stI : Instr → Option (Nat × Nat)
  | .istore i => some (i, 0)
  | .istore_n i => some (i.val, 0)
  | .astore i => some (i, 1)
  | .astore_n i => some (i.val, 1)
  | .lstore i => some (i, 2)
  | .lstore_n i => some (i.val, 2)
  | _ => none
def vty : Value → Nat
  | .int _ => 0
  | .ref _ => 1
  | .null => 1
  | .long _ => 2
  | _ => 3
section A5
variable {S : aS} {C : aM} {d : Nat} {Q : Option Value → aH → Prop} {X : String → aH → Prop} {k1 k2 pc np tgt : Nat} {w : Int32} {ls ls' r : List (Option Value)} {st st' : List Value} {h : aH} {ins : Instr}
theorem a_ld {i t : Nat} {v : Value} (hC : look C pc = some (ins, np, tgt, w)) (hi : ldI ins = some (i, t)) (hl : lg ls i = some v) (ht : vty v = t) (k : AW S C d Q X k1 k2 np ls (v :: st) h) : AW S C d Q X k1 k2 pc ls st h := by
  intro p l e s m args below meth c H la locs cells slots mc ms G CC hS hL hR hF h1 h2
  have K := k p l e s m args below meth c H la locs cells slots mc ms G CC hS hL hR hF h1 h2
  have hg := hL.2.2 i v hl
  have hx := CC.1
  have hb := CC.2.1
  have hO := CC.2.2.2.2.2.2.2.2.2
  clear CC
  unfold ldI at hi
  split at hi <;> first | (cases hi; done) | (cases hi; obtain ⟨hd, rfl, -⟩ := okd hO hC rfl; cases v <;> first | (cases ht; done) | skip)
  · exact lv_iload hx hb hd hg K
  · exact lv_iload_n hx hb hd rfl hg K
  · exact lv_aloadN hx hb hd hg K
  · exact lv_aload hx hb hd hg K
  · exact lv_aload_nN hx hb hd rfl hg K
  · exact lv_aload_n hx hb hd rfl hg K
  · exact lv_lload hx hb hd hg K
  · exact lv_lload_n hx hb hd rfl hg K
theorem a_st {i t : Nat} {v : Value} (hC : look C pc = some (ins, np, tgt, w)) (hi : stI ins = some (i, t)) (ht : vty v = t) (ht2 : t < 2) (hn : i < C.2.2.1) (k : AW S C d Q X k1 k2 np (lset ls i v) st h) : AW S C d Q X k1 k2 pc ls (v :: st) h := by
  intro p l e s m args below meth c H la locs cells slots mc ms G CC hS hL hR hF h1 h2
  have K := fun la' q => k p l e s m args below meth c H la' locs cells slots mc ms G CC hS q hR hF h1 h2
  have hx := CC.1
  have hb := CC.2.1
  have hO := CC.2.2.2.2.2.2.2.2.2
  have hh := hL.has
  clear CC
  unfold stI at hi
  split at hi <;> first | (cases hi; done) | (cases hi; obtain ⟨hd, rfl, -⟩ := okd hO hC rfl; cases v <;> first | (cases ht; done) | skip)
  · exact lv_istore hx hb hd hh hn rfl (fun la' q => K la' (HL.st q))
  · exact lv_istore_n hx hb hd rfl hh hn rfl (fun la' q => K la' (HL.st q))
  · exact lv_astoreN hx hb hd hh hn rfl (fun la' q => K la' (HL.st q))
  · exact lv_astore hx hb hd hh hn rfl (fun la' q => K la' (HL.st q))
  · exact lv_astore_nN hx hb hd rfl hh hn rfl (fun la' q => K la' (HL.st q))
  · exact lv_astore_n hx hb hd rfl hh hn rfl (fun la' q => K la' (HL.st q))
  · omega
  · omega
theorem a_stL {i : Nat} {v : Int64} (hC : look C pc = some (ins, np, tgt, w)) (hi : stI ins = some (i, 2)) (hn : i + 1 < C.2.2.1) (k : AW S C d Q X k1 k2 np (lsetL ls i v) st h) : AW S C d Q X k1 k2 pc ls (.long v :: st) h := by
  intro p l e s m args below meth c H la locs cells slots mc ms G CC hS hL hR hF h1 h2
  have K := fun la' q => k p l e s m args below meth c H la' locs cells slots mc ms G CC hS q hR hF h1 h2
  have hx := CC.1
  have hb := CC.2.1
  have hO := CC.2.2.2.2.2.2.2.2.2
  have hh := hL.has
  clear CC
  unfold stI at hi
  split at hi <;> first | (cases hi; done) | (cases hi; obtain ⟨hd, rfl, -⟩ := okd hO hC rfl)
  · exact lv_lstore hx hb hd hh hn rfl (fun la' q => K la' (HL.stL q))
  · exact lv_lstore_n hx hb hd rfl hh hn rfl (fun la' q => K la' (HL.stL q))
theorem a_inc {i : Nat} {n : Int} {x : Int32} (hC : look C pc = some (.iinc i n, np, tgt, w)) (hl : lg ls i = some (.int x)) (hn : i < C.2.2.1) (k : AW S C d Q X k1 k2 np (lset ls i (.int (x + w))) st h) : AW S C d Q X k1 k2 pc ls st h := by
  intro p l e s m args below meth c H la locs cells slots mc ms G CC hS hL hR hF h1 h2
  obtain ⟨hd, rfl, ho⟩ := okd CC.2.2.2.2.2.2.2.2.2 hC rfl
  obtain ⟨kk, hk⟩ := List.getElem?_of_mem ((llO_mem (G := G) (n := 0) (ls := ls) (q := (i, .int x))).mpr ⟨i, .int x, hl, by simp [mv]⟩)
  exact lv_iinc CC.1 CC.2.1 hd hL.has hk (by rw [of_decide_eq_true ho]) hn rfl (fun la' q => k p l e s m args below meth c H la' locs cells slots mc ms G CC hS (HL.st q) hR hF h1 h2)
/-- forget locals -/
theorem a_sub (hs : ∀ (i : Nat) (v : Value), lg ls' i = some v → lg ls i = some v) (k : AW S C d Q X k1 k2 pc ls' st h) : AW S C d Q X k1 k2 pc ls st h := by
  intro p l e s m args below meth c H la locs cells slots mc ms G CC hS hL hR hF h1 h2
  exact k p l e s m args below meth c H la locs cells slots mc ms G CC hS (hL.sub hs) hR hF h1 h2
def lsub : List (Option Value) → List (Option Value) → Prop
  | [], _ => True
  | none :: r, _ :: r' => lsub r r'
  | some v :: r, o :: r' => o = some v ∧ lsub r r'
  | _ :: _, [] => False
theorem lsub_lg {ls ls' : List (Option Value)} (h : lsub ls' ls) : ∀ (i : Nat) (v : Value), lg ls' i = some v → lg ls i = some v := by
  induction ls' generalizing ls with
  | nil => intro i v hv; simp [lg] at hv
  | cons a r ih =>
    intro i v hv
    cases ls with
    | nil => cases a <;> exact False.elim h
    | cons b r' =>
      cases a with
      | none =>
        rcases i with _ | i
        · simp [lg] at hv
        · exact ih h i v hv
      | some x =>
        obtain ⟨rfl, h⟩ := h
        rcases i with _ | i
        · exact hv
        · exact ih h i v hv
theorem a_less (k : AW S C d Q X k1 k2 pc ls' st h) (hs : lsub ls' ls) : AW S C d Q X k1 k2 pc ls st h := a_sub (lsub_lg hs) k
theorem a_l0 {t : Nat} {v : Value} (hC : look C pc = some (ins, np, tgt, w)) (hi : ldI ins = some (0, t)) (ht : vty v = t) (k : AW S C d Q X k1 k2 np (some v :: r) (v :: st) h) : AW S C d Q X k1 k2 pc (some v :: r) st h := a_ld hC hi rfl ht k
theorem a_s0 {t : Nat} {v : Value} {oo : Option Value} (hC : look C pc = some (ins, np, tgt, w)) (hi : stI ins = some (0, t)) (ht : vty v = t) (ht2 : Nat.blt t 2 = true) (hn : Nat.ble 1 C.2.2.1 = true) (k : AW S C d Q X k1 k2 np (some v :: r) st h) : AW S C d Q X k1 k2 pc (oo :: r) (v :: st) h := a_st hC hi ht (Nat.le_of_ble_eq_true ht2) (Nat.le_of_ble_eq_true hn) (k)
theorem a_sL0 {v : Int64} {oo o2 : Option Value} (hC : look C pc = some (ins, np, tgt, w)) (hi : stI ins = some (0, 2)) (hn : Nat.ble 2 C.2.2.1 = true) (k : AW S C d Q X k1 k2 np (some (.long v) :: none :: r) st h) : AW S C d Q X k1 k2 pc (oo :: o2 :: r) (.long v :: st) h := a_stL hC hi (Nat.le_of_ble_eq_true hn) (k)
theorem a_i0 {n : Int} {x : Int32} (hC : look C pc = some (.iinc 0 n, np, tgt, w)) (hn : Nat.ble 1 C.2.2.1 = true) (k : AW S C d Q X k1 k2 np (some (.int (x + w)) :: r) st h) : AW S C d Q X k1 k2 pc (some (.int x) :: r) st h := a_inc hC rfl (Nat.le_of_ble_eq_true hn) (k)
theorem a_l1 {a0 : Option Value} {t : Nat} {v : Value} (hC : look C pc = some (ins, np, tgt, w)) (hi : ldI ins = some (1, t)) (ht : vty v = t) (k : AW S C d Q X k1 k2 np (a0 :: some v :: r) (v :: st) h) : AW S C d Q X k1 k2 pc (a0 :: some v :: r) st h := a_ld hC hi rfl ht k
theorem a_s1 {a0 : Option Value} {t : Nat} {v : Value} {oo : Option Value} (hC : look C pc = some (ins, np, tgt, w)) (hi : stI ins = some (1, t)) (ht : vty v = t) (ht2 : Nat.blt t 2 = true) (hl : notLong a0 = true) (hn : Nat.ble 2 C.2.2.1 = true) (k : AW S C d Q X k1 k2 np (a0 :: some v :: r) st h) : AW S C d Q X k1 k2 pc (a0 :: oo :: r) (v :: st) h := a_st hC hi ht (Nat.le_of_ble_eq_true ht2) (Nat.le_of_ble_eq_true hn) (by rw [show lset (a0 :: oo :: r) 1 v = a0 :: some v :: r by simp [lset, kill_id hl]]; exact k)
theorem a_sL1 {a0 : Option Value} {v : Int64} {oo o2 : Option Value} (hC : look C pc = some (ins, np, tgt, w)) (hi : stI ins = some (1, 2)) (hl : notLong a0 = true) (hn : Nat.ble 3 C.2.2.1 = true) (k : AW S C d Q X k1 k2 np (a0 :: some (.long v) :: none :: r) st h) : AW S C d Q X k1 k2 pc (a0 :: oo :: o2 :: r) (.long v :: st) h := a_stL hC hi (Nat.le_of_ble_eq_true hn) (by rw [show lsetL (a0 :: oo :: o2 :: r) 1 v = a0 :: some (.long v) :: none :: r by simp [lsetL, lset0, kill_id hl]]; exact k)
theorem a_i1 {a0 : Option Value} {n : Int} {x : Int32} (hC : look C pc = some (.iinc 1 n, np, tgt, w)) (hl : notLong a0 = true) (hn : Nat.ble 2 C.2.2.1 = true) (k : AW S C d Q X k1 k2 np (a0 :: some (.int (x + w)) :: r) st h) : AW S C d Q X k1 k2 pc (a0 :: some (.int x) :: r) st h := a_inc hC rfl (Nat.le_of_ble_eq_true hn) (by rw [show lset (a0 :: some (.int x) :: r) 1 (.int (x + w)) = a0 :: some (.int (x + w)) :: r by simp [lset, kill_id hl]]; exact k)
theorem a_l2 {a0 a1 : Option Value} {t : Nat} {v : Value} (hC : look C pc = some (ins, np, tgt, w)) (hi : ldI ins = some (2, t)) (ht : vty v = t) (k : AW S C d Q X k1 k2 np (a0 :: a1 :: some v :: r) (v :: st) h) : AW S C d Q X k1 k2 pc (a0 :: a1 :: some v :: r) st h := a_ld hC hi rfl ht k
theorem a_s2 {a0 a1 : Option Value} {t : Nat} {v : Value} {oo : Option Value} (hC : look C pc = some (ins, np, tgt, w)) (hi : stI ins = some (2, t)) (ht : vty v = t) (ht2 : Nat.blt t 2 = true) (hl : notLong a1 = true) (hn : Nat.ble 3 C.2.2.1 = true) (k : AW S C d Q X k1 k2 np (a0 :: a1 :: some v :: r) st h) : AW S C d Q X k1 k2 pc (a0 :: a1 :: oo :: r) (v :: st) h := a_st hC hi ht (Nat.le_of_ble_eq_true ht2) (Nat.le_of_ble_eq_true hn) (by rw [show lset (a0 :: a1 :: oo :: r) 2 v = a0 :: a1 :: some v :: r by simp [lset, kill_id hl]]; exact k)
theorem a_sL2 {a0 a1 : Option Value} {v : Int64} {oo o2 : Option Value} (hC : look C pc = some (ins, np, tgt, w)) (hi : stI ins = some (2, 2)) (hl : notLong a1 = true) (hn : Nat.ble 4 C.2.2.1 = true) (k : AW S C d Q X k1 k2 np (a0 :: a1 :: some (.long v) :: none :: r) st h) : AW S C d Q X k1 k2 pc (a0 :: a1 :: oo :: o2 :: r) (.long v :: st) h := a_stL hC hi (Nat.le_of_ble_eq_true hn) (by rw [show lsetL (a0 :: a1 :: oo :: o2 :: r) 2 v = a0 :: a1 :: some (.long v) :: none :: r by simp [lsetL, lset0, kill_id hl]]; exact k)
theorem a_i2 {a0 a1 : Option Value} {n : Int} {x : Int32} (hC : look C pc = some (.iinc 2 n, np, tgt, w)) (hl : notLong a1 = true) (hn : Nat.ble 3 C.2.2.1 = true) (k : AW S C d Q X k1 k2 np (a0 :: a1 :: some (.int (x + w)) :: r) st h) : AW S C d Q X k1 k2 pc (a0 :: a1 :: some (.int x) :: r) st h := a_inc hC rfl (Nat.le_of_ble_eq_true hn) (by rw [show lset (a0 :: a1 :: some (.int x) :: r) 2 (.int (x + w)) = a0 :: a1 :: some (.int (x + w)) :: r by simp [lset, kill_id hl]]; exact k)
theorem a_l3 {a0 a1 a2 : Option Value} {t : Nat} {v : Value} (hC : look C pc = some (ins, np, tgt, w)) (hi : ldI ins = some (3, t)) (ht : vty v = t) (k : AW S C d Q X k1 k2 np (a0 :: a1 :: a2 :: some v :: r) (v :: st) h) : AW S C d Q X k1 k2 pc (a0 :: a1 :: a2 :: some v :: r) st h := a_ld hC hi rfl ht k
theorem a_s3 {a0 a1 a2 : Option Value} {t : Nat} {v : Value} {oo : Option Value} (hC : look C pc = some (ins, np, tgt, w)) (hi : stI ins = some (3, t)) (ht : vty v = t) (ht2 : Nat.blt t 2 = true) (hl : notLong a2 = true) (hn : Nat.ble 4 C.2.2.1 = true) (k : AW S C d Q X k1 k2 np (a0 :: a1 :: a2 :: some v :: r) st h) : AW S C d Q X k1 k2 pc (a0 :: a1 :: a2 :: oo :: r) (v :: st) h := a_st hC hi ht (Nat.le_of_ble_eq_true ht2) (Nat.le_of_ble_eq_true hn) (by rw [show lset (a0 :: a1 :: a2 :: oo :: r) 3 v = a0 :: a1 :: a2 :: some v :: r by simp [lset, kill_id hl]]; exact k)
theorem a_sL3 {a0 a1 a2 : Option Value} {v : Int64} {oo o2 : Option Value} (hC : look C pc = some (ins, np, tgt, w)) (hi : stI ins = some (3, 2)) (hl : notLong a2 = true) (hn : Nat.ble 5 C.2.2.1 = true) (k : AW S C d Q X k1 k2 np (a0 :: a1 :: a2 :: some (.long v) :: none :: r) st h) : AW S C d Q X k1 k2 pc (a0 :: a1 :: a2 :: oo :: o2 :: r) (.long v :: st) h := a_stL hC hi (Nat.le_of_ble_eq_true hn) (by rw [show lsetL (a0 :: a1 :: a2 :: oo :: o2 :: r) 3 v = a0 :: a1 :: a2 :: some (.long v) :: none :: r by simp [lsetL, lset0, kill_id hl]]; exact k)
theorem a_i3 {a0 a1 a2 : Option Value} {n : Int} {x : Int32} (hC : look C pc = some (.iinc 3 n, np, tgt, w)) (hl : notLong a2 = true) (hn : Nat.ble 4 C.2.2.1 = true) (k : AW S C d Q X k1 k2 np (a0 :: a1 :: a2 :: some (.int (x + w)) :: r) st h) : AW S C d Q X k1 k2 pc (a0 :: a1 :: a2 :: some (.int x) :: r) st h := a_inc hC rfl (Nat.le_of_ble_eq_true hn) (by rw [show lset (a0 :: a1 :: a2 :: some (.int x) :: r) 3 (.int (x + w)) = a0 :: a1 :: a2 :: some (.int (x + w)) :: r by simp [lset, kill_id hl]]; exact k)
theorem a_l4 {a0 a1 a2 a3 : Option Value} {t : Nat} {v : Value} (hC : look C pc = some (ins, np, tgt, w)) (hi : ldI ins = some (4, t)) (ht : vty v = t) (k : AW S C d Q X k1 k2 np (a0 :: a1 :: a2 :: a3 :: some v :: r) (v :: st) h) : AW S C d Q X k1 k2 pc (a0 :: a1 :: a2 :: a3 :: some v :: r) st h := a_ld hC hi rfl ht k
theorem a_s4 {a0 a1 a2 a3 : Option Value} {t : Nat} {v : Value} {oo : Option Value} (hC : look C pc = some (ins, np, tgt, w)) (hi : stI ins = some (4, t)) (ht : vty v = t) (ht2 : Nat.blt t 2 = true) (hl : notLong a3 = true) (hn : Nat.ble 5 C.2.2.1 = true) (k : AW S C d Q X k1 k2 np (a0 :: a1 :: a2 :: a3 :: some v :: r) st h) : AW S C d Q X k1 k2 pc (a0 :: a1 :: a2 :: a3 :: oo :: r) (v :: st) h := a_st hC hi ht (Nat.le_of_ble_eq_true ht2) (Nat.le_of_ble_eq_true hn) (by rw [show lset (a0 :: a1 :: a2 :: a3 :: oo :: r) 4 v = a0 :: a1 :: a2 :: a3 :: some v :: r by simp [lset, kill_id hl]]; exact k)
theorem a_sL4 {a0 a1 a2 a3 : Option Value} {v : Int64} {oo o2 : Option Value} (hC : look C pc = some (ins, np, tgt, w)) (hi : stI ins = some (4, 2)) (hl : notLong a3 = true) (hn : Nat.ble 6 C.2.2.1 = true) (k : AW S C d Q X k1 k2 np (a0 :: a1 :: a2 :: a3 :: some (.long v) :: none :: r) st h) : AW S C d Q X k1 k2 pc (a0 :: a1 :: a2 :: a3 :: oo :: o2 :: r) (.long v :: st) h := a_stL hC hi (Nat.le_of_ble_eq_true hn) (by rw [show lsetL (a0 :: a1 :: a2 :: a3 :: oo :: o2 :: r) 4 v = a0 :: a1 :: a2 :: a3 :: some (.long v) :: none :: r by simp [lsetL, lset0, kill_id hl]]; exact k)
theorem a_i4 {a0 a1 a2 a3 : Option Value} {n : Int} {x : Int32} (hC : look C pc = some (.iinc 4 n, np, tgt, w)) (hl : notLong a3 = true) (hn : Nat.ble 5 C.2.2.1 = true) (k : AW S C d Q X k1 k2 np (a0 :: a1 :: a2 :: a3 :: some (.int (x + w)) :: r) st h) : AW S C d Q X k1 k2 pc (a0 :: a1 :: a2 :: a3 :: some (.int x) :: r) st h := a_inc hC rfl (Nat.le_of_ble_eq_true hn) (by rw [show lset (a0 :: a1 :: a2 :: a3 :: some (.int x) :: r) 4 (.int (x + w)) = a0 :: a1 :: a2 :: a3 :: some (.int (x + w)) :: r by simp [lset, kill_id hl]]; exact k)
theorem a_l5 {a0 a1 a2 a3 a4 : Option Value} {t : Nat} {v : Value} (hC : look C pc = some (ins, np, tgt, w)) (hi : ldI ins = some (5, t)) (ht : vty v = t) (k : AW S C d Q X k1 k2 np (a0 :: a1 :: a2 :: a3 :: a4 :: some v :: r) (v :: st) h) : AW S C d Q X k1 k2 pc (a0 :: a1 :: a2 :: a3 :: a4 :: some v :: r) st h := a_ld hC hi rfl ht k
theorem a_s5 {a0 a1 a2 a3 a4 : Option Value} {t : Nat} {v : Value} {oo : Option Value} (hC : look C pc = some (ins, np, tgt, w)) (hi : stI ins = some (5, t)) (ht : vty v = t) (ht2 : Nat.blt t 2 = true) (hl : notLong a4 = true) (hn : Nat.ble 6 C.2.2.1 = true) (k : AW S C d Q X k1 k2 np (a0 :: a1 :: a2 :: a3 :: a4 :: some v :: r) st h) : AW S C d Q X k1 k2 pc (a0 :: a1 :: a2 :: a3 :: a4 :: oo :: r) (v :: st) h := a_st hC hi ht (Nat.le_of_ble_eq_true ht2) (Nat.le_of_ble_eq_true hn) (by rw [show lset (a0 :: a1 :: a2 :: a3 :: a4 :: oo :: r) 5 v = a0 :: a1 :: a2 :: a3 :: a4 :: some v :: r by simp [lset, kill_id hl]]; exact k)
theorem a_sL5 {a0 a1 a2 a3 a4 : Option Value} {v : Int64} {oo o2 : Option Value} (hC : look C pc = some (ins, np, tgt, w)) (hi : stI ins = some (5, 2)) (hl : notLong a4 = true) (hn : Nat.ble 7 C.2.2.1 = true) (k : AW S C d Q X k1 k2 np (a0 :: a1 :: a2 :: a3 :: a4 :: some (.long v) :: none :: r) st h) : AW S C d Q X k1 k2 pc (a0 :: a1 :: a2 :: a3 :: a4 :: oo :: o2 :: r) (.long v :: st) h := a_stL hC hi (Nat.le_of_ble_eq_true hn) (by rw [show lsetL (a0 :: a1 :: a2 :: a3 :: a4 :: oo :: o2 :: r) 5 v = a0 :: a1 :: a2 :: a3 :: a4 :: some (.long v) :: none :: r by simp [lsetL, lset0, kill_id hl]]; exact k)
theorem a_i5 {a0 a1 a2 a3 a4 : Option Value} {n : Int} {x : Int32} (hC : look C pc = some (.iinc 5 n, np, tgt, w)) (hl : notLong a4 = true) (hn : Nat.ble 6 C.2.2.1 = true) (k : AW S C d Q X k1 k2 np (a0 :: a1 :: a2 :: a3 :: a4 :: some (.int (x + w)) :: r) st h) : AW S C d Q X k1 k2 pc (a0 :: a1 :: a2 :: a3 :: a4 :: some (.int x) :: r) st h := a_inc hC rfl (Nat.le_of_ble_eq_true hn) (by rw [show lset (a0 :: a1 :: a2 :: a3 :: a4 :: some (.int x) :: r) 5 (.int (x + w)) = a0 :: a1 :: a2 :: a3 :: a4 :: some (.int (x + w)) :: r by simp [lset, kill_id hl]]; exact k)
theorem a_l6 {a0 a1 a2 a3 a4 a5 : Option Value} {t : Nat} {v : Value} (hC : look C pc = some (ins, np, tgt, w)) (hi : ldI ins = some (6, t)) (ht : vty v = t) (k : AW S C d Q X k1 k2 np (a0 :: a1 :: a2 :: a3 :: a4 :: a5 :: some v :: r) (v :: st) h) : AW S C d Q X k1 k2 pc (a0 :: a1 :: a2 :: a3 :: a4 :: a5 :: some v :: r) st h := a_ld hC hi rfl ht k
theorem a_s6 {a0 a1 a2 a3 a4 a5 : Option Value} {t : Nat} {v : Value} {oo : Option Value} (hC : look C pc = some (ins, np, tgt, w)) (hi : stI ins = some (6, t)) (ht : vty v = t) (ht2 : Nat.blt t 2 = true) (hl : notLong a5 = true) (hn : Nat.ble 7 C.2.2.1 = true) (k : AW S C d Q X k1 k2 np (a0 :: a1 :: a2 :: a3 :: a4 :: a5 :: some v :: r) st h) : AW S C d Q X k1 k2 pc (a0 :: a1 :: a2 :: a3 :: a4 :: a5 :: oo :: r) (v :: st) h := a_st hC hi ht (Nat.le_of_ble_eq_true ht2) (Nat.le_of_ble_eq_true hn) (by rw [show lset (a0 :: a1 :: a2 :: a3 :: a4 :: a5 :: oo :: r) 6 v = a0 :: a1 :: a2 :: a3 :: a4 :: a5 :: some v :: r by simp [lset, kill_id hl]]; exact k)
theorem a_sL6 {a0 a1 a2 a3 a4 a5 : Option Value} {v : Int64} {oo o2 : Option Value} (hC : look C pc = some (ins, np, tgt, w)) (hi : stI ins = some (6, 2)) (hl : notLong a5 = true) (hn : Nat.ble 8 C.2.2.1 = true) (k : AW S C d Q X k1 k2 np (a0 :: a1 :: a2 :: a3 :: a4 :: a5 :: some (.long v) :: none :: r) st h) : AW S C d Q X k1 k2 pc (a0 :: a1 :: a2 :: a3 :: a4 :: a5 :: oo :: o2 :: r) (.long v :: st) h := a_stL hC hi (Nat.le_of_ble_eq_true hn) (by rw [show lsetL (a0 :: a1 :: a2 :: a3 :: a4 :: a5 :: oo :: o2 :: r) 6 v = a0 :: a1 :: a2 :: a3 :: a4 :: a5 :: some (.long v) :: none :: r by simp [lsetL, lset0, kill_id hl]]; exact k)
theorem a_i6 {a0 a1 a2 a3 a4 a5 : Option Value} {n : Int} {x : Int32} (hC : look C pc = some (.iinc 6 n, np, tgt, w)) (hl : notLong a5 = true) (hn : Nat.ble 7 C.2.2.1 = true) (k : AW S C d Q X k1 k2 np (a0 :: a1 :: a2 :: a3 :: a4 :: a5 :: some (.int (x + w)) :: r) st h) : AW S C d Q X k1 k2 pc (a0 :: a1 :: a2 :: a3 :: a4 :: a5 :: some (.int x) :: r) st h := a_inc hC rfl (Nat.le_of_ble_eq_true hn) (by rw [show lset (a0 :: a1 :: a2 :: a3 :: a4 :: a5 :: some (.int x) :: r) 6 (.int (x + w)) = a0 :: a1 :: a2 :: a3 :: a4 :: a5 :: some (.int (x + w)) :: r by simp [lset, kill_id hl]]; exact k)
theorem a_l7 {a0 a1 a2 a3 a4 a5 a6 : Option Value} {t : Nat} {v : Value} (hC : look C pc = some (ins, np, tgt, w)) (hi : ldI ins = some (7, t)) (ht : vty v = t) (k : AW S C d Q X k1 k2 np (a0 :: a1 :: a2 :: a3 :: a4 :: a5 :: a6 :: some v :: r) (v :: st) h) : AW S C d Q X k1 k2 pc (a0 :: a1 :: a2 :: a3 :: a4 :: a5 :: a6 :: some v :: r) st h := a_ld hC hi rfl ht k
theorem a_s7 {a0 a1 a2 a3 a4 a5 a6 : Option Value} {t : Nat} {v : Value} {oo : Option Value} (hC : look C pc = some (ins, np, tgt, w)) (hi : stI ins = some (7, t)) (ht : vty v = t) (ht2 : Nat.blt t 2 = true) (hl : notLong a6 = true) (hn : Nat.ble 8 C.2.2.1 = true) (k : AW S C d Q X k1 k2 np (a0 :: a1 :: a2 :: a3 :: a4 :: a5 :: a6 :: some v :: r) st h) : AW S C d Q X k1 k2 pc (a0 :: a1 :: a2 :: a3 :: a4 :: a5 :: a6 :: oo :: r) (v :: st) h := a_st hC hi ht (Nat.le_of_ble_eq_true ht2) (Nat.le_of_ble_eq_true hn) (by rw [show lset (a0 :: a1 :: a2 :: a3 :: a4 :: a5 :: a6 :: oo :: r) 7 v = a0 :: a1 :: a2 :: a3 :: a4 :: a5 :: a6 :: some v :: r by simp [lset, kill_id hl]]; exact k)
theorem a_sL7 {a0 a1 a2 a3 a4 a5 a6 : Option Value} {v : Int64} {oo o2 : Option Value} (hC : look C pc = some (ins, np, tgt, w)) (hi : stI ins = some (7, 2)) (hl : notLong a6 = true) (hn : Nat.ble 9 C.2.2.1 = true) (k : AW S C d Q X k1 k2 np (a0 :: a1 :: a2 :: a3 :: a4 :: a5 :: a6 :: some (.long v) :: none :: r) st h) : AW S C d Q X k1 k2 pc (a0 :: a1 :: a2 :: a3 :: a4 :: a5 :: a6 :: oo :: o2 :: r) (.long v :: st) h := a_stL hC hi (Nat.le_of_ble_eq_true hn) (by rw [show lsetL (a0 :: a1 :: a2 :: a3 :: a4 :: a5 :: a6 :: oo :: o2 :: r) 7 v = a0 :: a1 :: a2 :: a3 :: a4 :: a5 :: a6 :: some (.long v) :: none :: r by simp [lsetL, lset0, kill_id hl]]; exact k)
theorem a_i7 {a0 a1 a2 a3 a4 a5 a6 : Option Value} {n : Int} {x : Int32} (hC : look C pc = some (.iinc 7 n, np, tgt, w)) (hl : notLong a6 = true) (hn : Nat.ble 8 C.2.2.1 = true) (k : AW S C d Q X k1 k2 np (a0 :: a1 :: a2 :: a3 :: a4 :: a5 :: a6 :: some (.int (x + w)) :: r) st h) : AW S C d Q X k1 k2 pc (a0 :: a1 :: a2 :: a3 :: a4 :: a5 :: a6 :: some (.int x) :: r) st h := a_inc hC rfl (Nat.le_of_ble_eq_true hn) (by rw [show lset (a0 :: a1 :: a2 :: a3 :: a4 :: a5 :: a6 :: some (.int x) :: r) 7 (.int (x + w)) = a0 :: a1 :: a2 :: a3 :: a4 :: a5 :: a6 :: some (.int (x + w)) :: r by simp [lset, kill_id hl]]; exact k)
theorem a_l8 {a0 a1 a2 a3 a4 a5 a6 a7 : Option Value} {t : Nat} {v : Value} (hC : look C pc = some (ins, np, tgt, w)) (hi : ldI ins = some (8, t)) (ht : vty v = t) (k : AW S C d Q X k1 k2 np (a0 :: a1 :: a2 :: a3 :: a4 :: a5 :: a6 :: a7 :: some v :: r) (v :: st) h) : AW S C d Q X k1 k2 pc (a0 :: a1 :: a2 :: a3 :: a4 :: a5 :: a6 :: a7 :: some v :: r) st h := a_ld hC hi rfl ht k
theorem a_s8 {a0 a1 a2 a3 a4 a5 a6 a7 : Option Value} {t : Nat} {v : Value} {oo : Option Value} (hC : look C pc = some (ins, np, tgt, w)) (hi : stI ins = some (8, t)) (ht : vty v = t) (ht2 : Nat.blt t 2 = true) (hl : notLong a7 = true) (hn : Nat.ble 9 C.2.2.1 = true) (k : AW S C d Q X k1 k2 np (a0 :: a1 :: a2 :: a3 :: a4 :: a5 :: a6 :: a7 :: some v :: r) st h) : AW S C d Q X k1 k2 pc (a0 :: a1 :: a2 :: a3 :: a4 :: a5 :: a6 :: a7 :: oo :: r) (v :: st) h := a_st hC hi ht (Nat.le_of_ble_eq_true ht2) (Nat.le_of_ble_eq_true hn) (by rw [show lset (a0 :: a1 :: a2 :: a3 :: a4 :: a5 :: a6 :: a7 :: oo :: r) 8 v = a0 :: a1 :: a2 :: a3 :: a4 :: a5 :: a6 :: a7 :: some v :: r by simp [lset, kill_id hl]]; exact k)
theorem a_sL8 {a0 a1 a2 a3 a4 a5 a6 a7 : Option Value} {v : Int64} {oo o2 : Option Value} (hC : look C pc = some (ins, np, tgt, w)) (hi : stI ins = some (8, 2)) (hl : notLong a7 = true) (hn : Nat.ble 10 C.2.2.1 = true) (k : AW S C d Q X k1 k2 np (a0 :: a1 :: a2 :: a3 :: a4 :: a5 :: a6 :: a7 :: some (.long v) :: none :: r) st h) : AW S C d Q X k1 k2 pc (a0 :: a1 :: a2 :: a3 :: a4 :: a5 :: a6 :: a7 :: oo :: o2 :: r) (.long v :: st) h := a_stL hC hi (Nat.le_of_ble_eq_true hn) (by rw [show lsetL (a0 :: a1 :: a2 :: a3 :: a4 :: a5 :: a6 :: a7 :: oo :: o2 :: r) 8 v = a0 :: a1 :: a2 :: a3 :: a4 :: a5 :: a6 :: a7 :: some (.long v) :: none :: r by simp [lsetL, lset0, kill_id hl]]; exact k)
theorem a_i8 {a0 a1 a2 a3 a4 a5 a6 a7 : Option Value} {n : Int} {x : Int32} (hC : look C pc = some (.iinc 8 n, np, tgt, w)) (hl : notLong a7 = true) (hn : Nat.ble 9 C.2.2.1 = true) (k : AW S C d Q X k1 k2 np (a0 :: a1 :: a2 :: a3 :: a4 :: a5 :: a6 :: a7 :: some (.int (x + w)) :: r) st h) : AW S C d Q X k1 k2 pc (a0 :: a1 :: a2 :: a3 :: a4 :: a5 :: a6 :: a7 :: some (.int x) :: r) st h := a_inc hC rfl (Nat.le_of_ble_eq_true hn) (by rw [show lset (a0 :: a1 :: a2 :: a3 :: a4 :: a5 :: a6 :: a7 :: some (.int x) :: r) 8 (.int (x + w)) = a0 :: a1 :: a2 :: a3 :: a4 :: a5 :: a6 :: a7 :: some (.int (x + w)) :: r by simp [lset, kill_id hl]]; exact k)
theorem a_l9 {a0 a1 a2 a3 a4 a5 a6 a7 a8 : Option Value} {t : Nat} {v : Value} (hC : look C pc = some (ins, np, tgt, w)) (hi : ldI ins = some (9, t)) (ht : vty v = t) (k : AW S C d Q X k1 k2 np (a0 :: a1 :: a2 :: a3 :: a4 :: a5 :: a6 :: a7 :: a8 :: some v :: r) (v :: st) h) : AW S C d Q X k1 k2 pc (a0 :: a1 :: a2 :: a3 :: a4 :: a5 :: a6 :: a7 :: a8 :: some v :: r) st h := a_ld hC hi rfl ht k
theorem a_s9 {a0 a1 a2 a3 a4 a5 a6 a7 a8 : Option Value} {t : Nat} {v : Value} {oo : Option Value} (hC : look C pc = some (ins, np, tgt, w)) (hi : stI ins = some (9, t)) (ht : vty v = t) (ht2 : Nat.blt t 2 = true) (hl : notLong a8 = true) (hn : Nat.ble 10 C.2.2.1 = true) (k : AW S C d Q X k1 k2 np (a0 :: a1 :: a2 :: a3 :: a4 :: a5 :: a6 :: a7 :: a8 :: some v :: r) st h) : AW S C d Q X k1 k2 pc (a0 :: a1 :: a2 :: a3 :: a4 :: a5 :: a6 :: a7 :: a8 :: oo :: r) (v :: st) h := a_st hC hi ht (Nat.le_of_ble_eq_true ht2) (Nat.le_of_ble_eq_true hn) (by rw [show lset (a0 :: a1 :: a2 :: a3 :: a4 :: a5 :: a6 :: a7 :: a8 :: oo :: r) 9 v = a0 :: a1 :: a2 :: a3 :: a4 :: a5 :: a6 :: a7 :: a8 :: some v :: r by simp [lset, kill_id hl]]; exact k)
theorem a_sL9 {a0 a1 a2 a3 a4 a5 a6 a7 a8 : Option Value} {v : Int64} {oo o2 : Option Value} (hC : look C pc = some (ins, np, tgt, w)) (hi : stI ins = some (9, 2)) (hl : notLong a8 = true) (hn : Nat.ble 11 C.2.2.1 = true) (k : AW S C d Q X k1 k2 np (a0 :: a1 :: a2 :: a3 :: a4 :: a5 :: a6 :: a7 :: a8 :: some (.long v) :: none :: r) st h) : AW S C d Q X k1 k2 pc (a0 :: a1 :: a2 :: a3 :: a4 :: a5 :: a6 :: a7 :: a8 :: oo :: o2 :: r) (.long v :: st) h := a_stL hC hi (Nat.le_of_ble_eq_true hn) (by rw [show lsetL (a0 :: a1 :: a2 :: a3 :: a4 :: a5 :: a6 :: a7 :: a8 :: oo :: o2 :: r) 9 v = a0 :: a1 :: a2 :: a3 :: a4 :: a5 :: a6 :: a7 :: a8 :: some (.long v) :: none :: r by simp [lsetL, lset0, kill_id hl]]; exact k)
theorem a_i9 {a0 a1 a2 a3 a4 a5 a6 a7 a8 : Option Value} {n : Int} {x : Int32} (hC : look C pc = some (.iinc 9 n, np, tgt, w)) (hl : notLong a8 = true) (hn : Nat.ble 10 C.2.2.1 = true) (k : AW S C d Q X k1 k2 np (a0 :: a1 :: a2 :: a3 :: a4 :: a5 :: a6 :: a7 :: a8 :: some (.int (x + w)) :: r) st h) : AW S C d Q X k1 k2 pc (a0 :: a1 :: a2 :: a3 :: a4 :: a5 :: a6 :: a7 :: a8 :: some (.int x) :: r) st h := a_inc hC rfl (Nat.le_of_ble_eq_true hn) (by rw [show lset (a0 :: a1 :: a2 :: a3 :: a4 :: a5 :: a6 :: a7 :: a8 :: some (.int x) :: r) 9 (.int (x + w)) = a0 :: a1 :: a2 :: a3 :: a4 :: a5 :: a6 :: a7 :: a8 :: some (.int (x + w)) :: r by simp [lset, kill_id hl]]; exact k)
theorem a_l10 {a0 a1 a2 a3 a4 a5 a6 a7 a8 a9 : Option Value} {t : Nat} {v : Value} (hC : look C pc = some (ins, np, tgt, w)) (hi : ldI ins = some (10, t)) (ht : vty v = t) (k : AW S C d Q X k1 k2 np (a0 :: a1 :: a2 :: a3 :: a4 :: a5 :: a6 :: a7 :: a8 :: a9 :: some v :: r) (v :: st) h) : AW S C d Q X k1 k2 pc (a0 :: a1 :: a2 :: a3 :: a4 :: a5 :: a6 :: a7 :: a8 :: a9 :: some v :: r) st h := a_ld hC hi rfl ht k
theorem a_s10 {a0 a1 a2 a3 a4 a5 a6 a7 a8 a9 : Option Value} {t : Nat} {v : Value} {oo : Option Value} (hC : look C pc = some (ins, np, tgt, w)) (hi : stI ins = some (10, t)) (ht : vty v = t) (ht2 : Nat.blt t 2 = true) (hl : notLong a9 = true) (hn : Nat.ble 11 C.2.2.1 = true) (k : AW S C d Q X k1 k2 np (a0 :: a1 :: a2 :: a3 :: a4 :: a5 :: a6 :: a7 :: a8 :: a9 :: some v :: r) st h) : AW S C d Q X k1 k2 pc (a0 :: a1 :: a2 :: a3 :: a4 :: a5 :: a6 :: a7 :: a8 :: a9 :: oo :: r) (v :: st) h := a_st hC hi ht (Nat.le_of_ble_eq_true ht2) (Nat.le_of_ble_eq_true hn) (by rw [show lset (a0 :: a1 :: a2 :: a3 :: a4 :: a5 :: a6 :: a7 :: a8 :: a9 :: oo :: r) 10 v = a0 :: a1 :: a2 :: a3 :: a4 :: a5 :: a6 :: a7 :: a8 :: a9 :: some v :: r by simp [lset, kill_id hl]]; exact k)
theorem a_sL10 {a0 a1 a2 a3 a4 a5 a6 a7 a8 a9 : Option Value} {v : Int64} {oo o2 : Option Value} (hC : look C pc = some (ins, np, tgt, w)) (hi : stI ins = some (10, 2)) (hl : notLong a9 = true) (hn : Nat.ble 12 C.2.2.1 = true) (k : AW S C d Q X k1 k2 np (a0 :: a1 :: a2 :: a3 :: a4 :: a5 :: a6 :: a7 :: a8 :: a9 :: some (.long v) :: none :: r) st h) : AW S C d Q X k1 k2 pc (a0 :: a1 :: a2 :: a3 :: a4 :: a5 :: a6 :: a7 :: a8 :: a9 :: oo :: o2 :: r) (.long v :: st) h := a_stL hC hi (Nat.le_of_ble_eq_true hn) (by rw [show lsetL (a0 :: a1 :: a2 :: a3 :: a4 :: a5 :: a6 :: a7 :: a8 :: a9 :: oo :: o2 :: r) 10 v = a0 :: a1 :: a2 :: a3 :: a4 :: a5 :: a6 :: a7 :: a8 :: a9 :: some (.long v) :: none :: r by simp [lsetL, lset0, kill_id hl]]; exact k)
theorem a_i10 {a0 a1 a2 a3 a4 a5 a6 a7 a8 a9 : Option Value} {n : Int} {x : Int32} (hC : look C pc = some (.iinc 10 n, np, tgt, w)) (hl : notLong a9 = true) (hn : Nat.ble 11 C.2.2.1 = true) (k : AW S C d Q X k1 k2 np (a0 :: a1 :: a2 :: a3 :: a4 :: a5 :: a6 :: a7 :: a8 :: a9 :: some (.int (x + w)) :: r) st h) : AW S C d Q X k1 k2 pc (a0 :: a1 :: a2 :: a3 :: a4 :: a5 :: a6 :: a7 :: a8 :: a9 :: some (.int x) :: r) st h := a_inc hC rfl (Nat.le_of_ble_eq_true hn) (by rw [show lset (a0 :: a1 :: a2 :: a3 :: a4 :: a5 :: a6 :: a7 :: a8 :: a9 :: some (.int x) :: r) 10 (.int (x + w)) = a0 :: a1 :: a2 :: a3 :: a4 :: a5 :: a6 :: a7 :: a8 :: a9 :: some (.int (x + w)) :: r by simp [lset, kill_id hl]]; exact k)
end A5
end
section
/-! ===== the rules of AW: the heap ===== -/
theorem fv_int {G : aG} {I : Nat → Nat → Int32} {R : Nat → Nat → Nat} {p k : Nat} {ty : FieldType} (h : isIntTy ty = true) : fv G I R p ty k = .int (I p k) := by
  cases ty <;> first | rfl | (cases h; done)
theorem fv_ref {G : aG} {I : Nat → Nat → Int32} {R : Nat → Nat → Nat} {p k : Nat} {ty : FieldType} (h : isRefTy ty = true) : fv G I R p ty k = mv G (rv (R p k)) := by
  cases ty <;> first | rfl | (cases h; done)
theorem Rep.ob {G : aG} {h : aH} {H : Heap} {p ci : Nat} (hR : Rep G h H) (hK : h.1 p = (1, ci)) : obA G h.2.1 h.2.2.2.1 H p ci := by
  have q := hR.1 p
  unfold cellA at q
  rw [hK] at q
  exact q
theorem Rep.ar {G : aG} {h : aH} {H : Heap} {p t n : Nat} (hR : Rep G h H) (hK : h.1 p = (t + 2, n)) : arA G h.2.1 h.2.2.1 h.2.2.2.1 H p (t + 2) n := by
  have q := hR.1 p
  unfold cellA at q
  rw [hK] at q
  exact q
theorem cellA_congr {G : aG} {K : Nat → Nat × Nat} {I I' : Nat → Nat → Int32} {L L' : Nat → Nat → Int64} {R R' : Nat → Nat → Nat} {t t' : Nat} {H H' : Heap} {q : Nat} (hI : I' q = I q) (hL : L' q = L q) (hR : R' q = R q) (hH : (K q).1 ≠ 0 → H'[ad G q]? = H[ad G q]?) (h : cellA G (K, I, L, R, t) H q) : cellA G (K, I', L', R', t') H' q := by
  unfold cellA at h ⊢
  dsimp only at h ⊢
  rcases hk : K q with ⟨a, b⟩
  rw [hk] at h hH
  rcases a with _ | _ | a
  · trivial
  · obtain ⟨r, h1, cell, h2, h3, h4, h5⟩ := h
    refine ⟨r, h1, cell, (hH (by simp)).trans h2, h3, h4, fun k hk => ?_⟩
    rw [h5 k hk]
    cases r.2 k <;> simp [fv, hI, hR]
  · have e : (fun j => ev G I' L' R' (a + 2) q j) = fun j => ev G I L R (a + 2) q j := by
      funext j
      unfold ev
      rw [hI, hL, hR]
    show H'[ad G q]? = some (arrV _ _ _)
    rw [e, hH (by simp)]
    exact h
theorem ad_inj {G : aG} {p q : Nat} (hp : 200 ≤ p) (hq : 200 ≤ q) (h : ad G p = ad G q) : p = q := by
  rw [ad_dyn hp, ad_dyn hq] at h
  omega
theorem aA_ad {G : aG} {p : Nat} (hp : 200 ≤ p) : aA G (ad G p) := by
  rw [ad_dyn hp]
  exact Nat.le_add_right _ _
/-- one place is written -/
theorem Rep.set {G : aG} {K : Nat → Nat × Nat} {I I' : Nat → Nat → Int32} {L L' : Nat → Nat → Int64} {R R' : Nat → Nat → Nat} {t : Nat} {H H' : Heap} {p : Nat} (hR : Rep G (K, I, L, R, t) H) (hp : 200 ≤ p) (hI : ∀ q, q ≠ p → I' q = I q) (hL : ∀ q, q ≠ p → L' q = L q) (hRR : ∀ q, q ≠ p → R' q = R q) (hz : H'.size = H.size) (hH : ∀ q : Nat, q ≠ ad G p → H'[q]? = H[q]?) (h : cellA G (K, I', L', R', t) H' p) : Rep G (K, I', L', R', t) H' := by
  obtain ⟨h1, h2, h3, h4⟩ := hR
  refine ⟨fun q => ?_, h2, fun z => by rw [hz]; exact h3 z, by rw [hz]; exact h4⟩
  by_cases hq : q = p
  · subst hq
    exact h
  · exact cellA_congr (hI q hq) (hL q hq) (hRR q hq) (fun hk => hH _ fun e => hq (ad_inj (h2 q hk) hp e)) (h1 q)
section A6
variable {S : aS} {C : aM} {d : Nat} {Q : Option Value → aH → Prop} {X : String → aH → Prop} {k1 k2 pc np tgt : Nat} {w : Int32} {ls ls' : List (Option Value)} {st st' : List Value} {h : aH} {ins : Instr}
variable {K : Nat → Nat × Nat} {I : Nat → Nat → Int32} {L : Nat → Nat → Int64} {R : Nat → Nat → Nat} {t : Nat}
/-- more may be made -/
theorem a_room {j1 j2 : Nat} (h1 : j1 ≤ k1) (h2 : j2 ≤ k2) (k : AW S C d Q X j1 j2 pc ls st h) : AW S C d Q X k1 k2 pc ls st h := by
  intro p l e s m args below meth c H la locs cells slots mc ms G CC hS hL hR hF g1 g2
  exact k p l e s m args below meth c H la locs cells slots mc ms G CC hS hL hR hF (by omega) (by omega)
/-- what the tables say of a field -/
theorem lf_use {own : String} {idx ci k : Nat} {r : vw_C × (Nat → FieldType)} {G : aG} {s : State} {args : Array Value} (hf : LF own idx ci k r) (hS : SW S G s) :
    ∃ (ref : String) (cf : ClassId) (kf : Class) (fi : Nat) (f : Field), (Cond.fieldLink own idx ref (r.1.2.1 k).2.1 (r.1.2.1 k).2.2.1).before args s = true ∧ s.fieldFound? ref (r.1.2.1 k).2.1 (r.1.2.1 k).2.2.1 = some (cf, kf, fi, f) ∧ s.fieldFound? (r.1.2.1 k).1 (r.1.2.1 k).2.1 (r.1.2.1 k).2.2.1 = some (cf, kf, fi, f) ∧ f.isStatic = false ∧ f.slot = G.1.2 ci k := by
  obtain ⟨hc, ⟨hws, -, -⟩, hk, ref, hl, hsame⟩ := hf
  obtain ⟨hSl, hfc, kC, hkC, hkind⟩ := hS.1 ci r hc
  obtain ⟨cf, kf, fi, f, hi, hsl⟩ := hSl k hk
  have hts : ∀ w ∈ u_ws r.1.1 r.1.2.1 r.1.2.2, w.before args s = true := fun w hw => hS.2.2.1 w (hws w hw).1 (by rw [(hws w hw).2]; rfl) args
  refine ⟨ref, cf, kf, fi, f, hS.2.2.1 _ hl rfl args, ?_, hi, (u_facts hfc hkC (u_lays hts (fun w hw => hw) hk) hi).1, hsl⟩
  rcases hsame with rfl | hs
  · exact hi
  · exact u_same (hS.2.2.1 _ hs rfl args) _ hi
theorem a_get {idx ci k p : Nat} {r : vw_C × (Nat → FieldType)} {v : Value} (hC : look C pc = some (.getfield idx, np, tgt, w)) (hf : LF C.1.cls idx ci k r) (hK : h.1 p = (1, ci)) (hv : ∀ G : aG, fv G h.2.1 h.2.2.2.1 p (r.2 k) k = mv G v) (kk : AW S C d Q X k1 k2 np ls (v :: st) h) : AW S C d Q X k1 k2 pc ls (.ref p :: st) h := by
  intro p' l e s m args below meth c H la locs cells slots mc ms G CC hS hL hR hF h1 h2
  obtain ⟨hd, rfl, -⟩ := okd CC.2.2.2.2.2.2.2.2.2 hC rfl
  obtain ⟨ref, cf, kf, fi, f, hl, hi, -, hst, hsl⟩ := lf_use (args := args) hf hS
  obtain ⟨r', hr', cell, q1, q2, q3, q4⟩ := hR.ob hK
  cases hf.1.symm.trans hr'
  refine W.getf CC.1 CC.2.1 CC.2.2.2.2.2.1 hl hi hst q1 (by rw [q3]; exact fun z => by cases z) (v := mv G v) (by rw [hsl, q4 k hf.2.2.1, hv]) rfl rfl hd ?_
  exact kk p' l e s m args below meth c H la locs cells slots mc ms G CC hS hL hR hF h1 h2
theorem a_geti {idx ci k p : Nat} (hC : look C pc = some (.getfield idx, np, tgt, w)) (hf : LFi C.1.cls idx ci k) (hK : K p = (1, ci)) (kk : AW S C d Q X k1 k2 np ls (.int (I p k) :: st) (K, I, L, R, t)) : AW S C d Q X k1 k2 pc ls (.ref p :: st) (K, I, L, R, t) := by
  obtain ⟨r, hf, ht⟩ := hf
  exact a_get hC hf hK (fun G => fv_int ht) kk
theorem a_getr {idx ci k p : Nat} (hC : look C pc = some (.getfield idx, np, tgt, w)) (hf : LFr C.1.cls idx ci k) (hK : K p = (1, ci)) (kk : AW S C d Q X k1 k2 np ls (rv (R p k) :: st) (K, I, L, R, t)) : AW S C d Q X k1 k2 pc ls (.ref p :: st) (K, I, L, R, t) := by
  obtain ⟨r, hf, ht⟩ := hf
  exact a_get hC hf hK (fun G => fv_ref ht) kk
theorem a_getq {idx ci k p q : Nat} (hC : look C pc = some (.getfield idx, np, tgt, w)) (hf : LFr C.1.cls idx ci k) (hK : K p = (1, ci)) (hq : R p k = q + 1) (kk : AW S C d Q X k1 k2 np ls (.ref q :: st) (K, I, L, R, t)) : AW S C d Q X k1 k2 pc ls (.ref p :: st) (K, I, L, R, t) := by
  refine a_getr hC hf hK ?_
  rw [hq]
  exact kk
/-- a field is written: not final, or in the class's own constructor -/
theorem a_put {idx ci k p : Nat} {r : vw_C × (Nat → FieldType)} {v : Value} {I' : Nat → Nat → Int32} {R' : Nat → Nat → Nat} (hC : look C pc = some (.putfield idx, np, tgt, w)) (hf : LF C.1.cls idx ci k r) (hfin : (r.1.2.1 k).2.2.2 = false ∨ ((r.1.2.1 k).2.2.2 = true ∧ C.1.name = "<init>" ∧ (r.1.2.1 k).1 = C.1.cls)) (hK : K p = (1, ci)) (hn : ∀ G : aG, narrow (r.2 k) (mv G v) = mv G v) (hfit : ∀ G : aG, fits (r.2 k) (mv G v) = true)
    (hI : ∀ q, q ≠ p → I' q = I q) (hR' : ∀ q, q ≠ p → R' q = R q) (hj : ∀ j, j ≠ k → I' p j = I p j ∧ R' p j = R p j) (hv : ∀ G : aG, fv G I' R' p (r.2 k) k = mv G v)
    (kk : AW S C d Q X k1 k2 np ls st (K, I', L, R', t)) : AW S C d Q X k1 k2 pc ls (v :: .ref p :: st) (K, I, L, R, t) := by
  intro p' l e s m args below meth c H la locs cells slots mc ms G CC hS hL hR hF h1 h2
  obtain ⟨hd, rfl, -⟩ := okd CC.2.2.2.2.2.2.2.2.2 hC rfl
  obtain ⟨ref, cf, kf, fi, f, hl, hi, hi0, hst, hsl⟩ := lf_use (args := args) hf hS
  obtain ⟨r', hr', cell, q1, q2, q3, q4⟩ := hR.ob hK
  cases hf.1.symm.trans hr'
  have hp : 200 ≤ p := hR.2.1 p (by show (K p).1 ≠ 0; rw [hK]; simp)
  obtain ⟨hSl, hfc, kC, hkC, hkind⟩ := hS.1 ci r hf.1
  have hts : ∀ w ∈ u_ws r.1.1 r.1.2.1 r.1.2.2, w.before args s = true := fun w hw => hS.2.2.1 w (hf.2.1.1 w hw).1 (by rw [(hf.2.1.1 w hw).2]; rfl) args
  have hlay := u_lays hts (fun w hw => hw) hf.2.2.1
  have hd0 := hf.2.1.2.2 k hf.2.2.1
  have hap : ∀ a b, a < r.1.2.2 → b < r.1.2.2 → a ≠ b → G.1.2 ci a ≠ G.1.2 ci b := by
    intro a b ha hb hne
    obtain ⟨_, _, _, fa, hia, ea⟩ := hSl a ha
    obtain ⟨_, _, _, fb, hib, eb⟩ := hSl b hb
    rw [← ea, ← eb]
    refine u_apart (u_lays hts (fun w hw => hw) ha) (u_lays hts (fun w hw => hw) hb) hia hib ?_
    rw [(State.fieldFound?_type hia (hf.2.1.2.2 a ha)).1, (State.fieldFound?_type hib (hf.2.1.2.2 b hb)).1]
    exact hf.2.1.2.1 a ha b hb hne
  have fin : ∀ H' : Heap, H'[ad G p]? = some (cell.setSlot f.slot (mv G v)) → H'.size = H.size → (∀ q, q ≠ ad G p → H'[q]? = H[q]?) → Rep G (K, I', L, R', t) H' ∧ va_S (aA G) s.heap H' (locs ++ [⟨ad G p, f.slot⟩]) := by
    intro H' e1 e2 e3
    refine ⟨Rep.set hR hp hI (fun _ _ => rfl) hR' e2 e3 ?_, hF.put e2 e3 (aA_ad hp)⟩
    show cellA G (K, I', L, R', t) H' p
    unfold cellA
    dsimp only
    rw [hK]
    refine ⟨r, hf.1, _, e1, q2, q3, fun j hjn => ?_⟩
    rw [hsl]
    by_cases hjk : j = k
    · subst hjk
      rw [Cell.slots_setSlot_self _ (k2_hasslot (q4 j hjn)), hv]
    · rw [slot_ne _ _ (hap k j hf.2.2.1 hjn (Ne.symm hjk)), q4 j hjn]
      obtain ⟨z1, z2⟩ := hj j hjk
      show some (fv G I R p (r.2 j) j) = some (fv G I' R' p (r.2 j) j)
      cases r.2 j <;> simp [fv, z1, z2]
  have hlt : f.slot < cell.slots.size := by rw [hsl]; exact k2_hasslot (q4 k hf.2.2.1)
  have done : ∀ H' : Heap, H'[ad G p]? = some (cell.setSlot f.slot (mv G v)) → H'.size = H.size → (∀ q, q ≠ ad G p → H'[q]? = H[q]?) → W p' l e (rmD d mc ms) s m args below meth c H' (locs ++ [⟨ad G p, f.slot⟩]) cells slots (vx_MQ below (QcM G Q) (XcM G X) args s mc ms (aA G)) (F0 m (pc + 3) la (st.map (mv G))) := by
    intro H' e1 e2 e3
    obtain ⟨z1, z2⟩ := fin H' e1 e2 e3
    exact kk p' l e s m args below meth c H' la _ cells slots mc ms G CC hS hL z1 z2 h1 h2
  rcases hfin with hfin | ⟨hfin, hin, hdecl⟩
  · have hlay' := hts _ (u_in_lay hf.2.2.1)
    unfold u_lay at hlay'
    rw [if_neg (by rw [hfin]; decide)] at hlay'
    have h6 := u_store hfc hkC hkind hlay' hi0 hd0 (hn G) (hfit G)
    exact W.putK CC.1 CC.2.1 (f := f) ⟨CC.2.2.2.2.2.1, hl, ⟨_, _, _, hi⟩, hst⟩ (by rw [q2]; exact h6) q1 q3 hlt rfl rfl hd done
  · have hcf : m.cls = cf := by
      have h8 := hts _ (u_in_lay hf.2.2.1)
      unfold u_lay at h8
      rw [if_pos hfin] at h8
      obtain ⟨_, _, c', _, _, _, -, -, hf', -, -, -, hown2, -⟩ := Cond.laysFinal_spec h8
      have e1 : c' = cf := by have := hi0.symm.trans hf'; simp at this; exact this.1.symm
      rw [hdecl] at hown2
      rw [← e1]; exact Option.some.inj (CC.2.2.2.2.2.1.symm.trans hown2)
    exact W.putFinK CC.1 CC.2.1 CC.2.2.2.2.2.1 hl hi hst hcf (CC.2.2.2.2.2.2.1.trans hin) (by rw [q2]; exact u_fits hfc hkC hkind hlay hi0 hd0 (hn G) (hfit G)) q1 q3 hlt rfl rfl hd done
end A6
end
section
/-! ===== the rules of AW: fields by kind, arrays, answers ===== -/
theorem nar_ref {ty : FieldType} (h : isRefTy ty = true) (v : Value) (hv : v = .null ∨ ∃ a, v = .ref a) : narrow ty v = v ∧ fits ty v = true := by
  rcases hv with rfl | ⟨a, rfl⟩ <;> cases ty <;> first | (cases h; done) | exact ⟨rfl, rfl⟩
theorem mv_rv_or (G : aG) (r : Nat) : mv G (rv r) = .null ∨ ∃ a, mv G (rv r) = .ref a := by cases r <;> first | exact Or.inl rfl | exact Or.inr ⟨_, rfl⟩
section A7
variable {S : aS} {C : aM} {d : Nat} {Q : Option Value → aH → Prop} {X : String → aH → Prop} {k1 k2 pc np tgt : Nat} {w : Int32} {ls ls' : List (Option Value)} {st st' : List Value} {h : aH} {ins : Instr}
variable {K : Nat → Nat × Nat} {I : Nat → Nat → Int32} {L : Nat → Nat → Int64} {R : Nat → Nat → Nat} {t : Nat}
theorem a_puti {idx ci k p : Nat} {x : Int32} (hC : look C pc = some (.putfield idx, np, tgt, w)) (hf : LPi C.1.cls C.1.name idx ci k) (hK : K p = (1, ci)) (kk : AW S C d Q X k1 k2 np ls st (K, up2 I p k x, L, R, t)) : AW S C d Q X k1 k2 pc ls (.int x :: .ref p :: st) (K, I, L, R, t) := by
  obtain ⟨r, ⟨hf, hfin⟩, ht⟩ := hf
  refine a_put hC hf hfin hK (fun G => ?_) (fun G => ?_) (fun q hq => up2_row hq) (fun _ _ => rfl) (fun j hj => ⟨up2_ne (Or.inr hj), rfl⟩) (fun G => ?_) kk
  · rw [ht]; rfl
  · rw [ht]; rfl
  · rw [ht]; show Value.int (up2 I p k x p k) = _; rw [up2_at]; rfl
theorem a_putz {idx ci k p : Nat} {x : Int32} (hC : look C pc = some (.putfield idx, np, tgt, w)) (hf : LPz C.1.cls C.1.name idx ci k) (hx : narrow .boolean (.int x) = .int x ∧ fits .boolean (.int x) = true) (hK : K p = (1, ci)) (kk : AW S C d Q X k1 k2 np ls st (K, up2 I p k x, L, R, t)) : AW S C d Q X k1 k2 pc ls (.int x :: .ref p :: st) (K, I, L, R, t) := by
  obtain ⟨r, ⟨hf, hfin⟩, ht⟩ := hf
  refine a_put hC hf hfin hK (fun G => ?_) (fun G => ?_) (fun q hq => up2_row hq) (fun _ _ => rfl) (fun j hj => ⟨up2_ne (Or.inr hj), rfl⟩) (fun G => ?_) kk
  · rw [ht]; exact hx.1
  · rw [ht]; exact hx.2
  · rw [ht]; show Value.int (up2 I p k x p k) = _; rw [up2_at]; rfl
theorem a_putr {idx ci k p q : Nat} (hC : look C pc = some (.putfield idx, np, tgt, w)) (hf : LPr C.1.cls C.1.name idx ci k) (hK : K p = (1, ci)) (kk : AW S C d Q X k1 k2 np ls st (K, I, L, up2 R p k q, t)) : AW S C d Q X k1 k2 pc ls (rv q :: .ref p :: st) (K, I, L, R, t) := by
  obtain ⟨r, ⟨hf, hfin⟩, ht⟩ := hf
  refine a_put hC hf hfin hK (fun G => (nar_ref ht _ (mv_rv_or G q)).1) (fun G => (nar_ref ht _ (mv_rv_or G q)).2) (fun _ _ => rfl) (fun q hq => up2_row hq) (fun j hj => ⟨rfl, up2_ne (Or.inr hj)⟩) (fun G => ?_) kk
  rw [fv_ref ht, up2_at]
theorem a_putq {idx ci k p q : Nat} (hC : look C pc = some (.putfield idx, np, tgt, w)) (hf : LPr C.1.cls C.1.name idx ci k) (hK : K p = (1, ci)) (kk : AW S C d Q X k1 k2 np ls st (K, I, L, up2 R p k (q + 1), t)) : AW S C d Q X k1 k2 pc ls (.ref q :: .ref p :: st) (K, I, L, R, t) := a_putr (q := q + 1) hC hf hK kk
/-! arrays -/
theorem arrV_kn (c : ClassId) (n : Nat) (f : Nat → Value) : (arrV c n f).vm ≠ .unknown := by
  unfold arrV
  simp
theorem arrV_ks (c : ClassId) (n : Nat) (f : Nat → Value) : ∀ q, (arrV c n f).vm ≠ .statics q := by
  intro q
  unfold arrV
  simp
def inI (i : Int32) (n : Nat) : Prop := ¬ i < 0 ∧ i.toNatClampNeg < n
theorem inI_not {i : Int32} {n : Nat} (h : inI i n) : ¬ (i < 0 ∨ n ≤ i.toNatClampNeg) := by
  rintro (q | q)
  · exact h.1 q
  · have := h.2
    omega
theorem a_len {p n tt : Nat} {x : Int32} (hC : look C pc = some (.arraylength, np, tgt, w)) (hK : K p = (tt + 2, n)) (htt : Nat.blt tt 4 = true) (hx : nI n = x) (kk : AW S C d Q X k1 k2 np ls (.int x :: st) (K, I, L, R, t)) : AW S C d Q X k1 k2 pc ls (.ref p :: st) (K, I, L, R, t) := by
  intro p' l e s m args below meth c H la locs cells slots mc ms G CC hS hL hR hF h1 h2
  obtain ⟨hd, rfl, -⟩ := okd CC.2.2.2.2.2.2.2.2.2 hC rfl
  have hA := hR.ar hK
  refine W.alen CC.1 CC.2.1 hA ((hS.2.1 tt (Nat.le_of_ble_eq_true htt)).1 _ _) (n := x) ?_ rfl rfl hd ?_
  · rw [arrV_size, ← hx]
    rfl
  · exact kk p' l e s m args below meth c H la locs cells slots mc ms G CC hS hL hR hF h1 h2
theorem a_iald {p n : Nat} {i : Int32} (hC : look C pc = some (.iaload, np, tgt, w)) (hK : K p = (2, n)) (hi : inI i n) (kk : AW S C d Q X k1 k2 np ls (.int (I p i.toNatClampNeg) :: st) (K, I, L, R, t)) : AW S C d Q X k1 k2 pc ls (.int i :: .ref p :: st) (K, I, L, R, t) := by
  intro p' l e s m args below meth c H la locs cells slots mc ms G CC hS hL hR hF h1 h2
  obtain ⟨hd, rfl, -⟩ := okd CC.2.2.2.2.2.2.2.2.2 hC rfl
  have hA := hR.ar (t := 0) hK
  exact W.iald CC.1 CC.2.1 hA ((hS.2.1 0 (by decide)).1 _ _) (arrV_kn _ _ _) (by rw [arrV_size]; exact inI_not hi) (arrV_read _ _ hi.2) rfl rfl hd (kk p' l e s m args below meth c H la locs cells slots mc ms G CC hS hL hR hF h1 h2)
theorem a_bald {p n : Nat} {i : Int32} (hC : look C pc = some (.baload, np, tgt, w)) (hK : K p = (3, n)) (hi : inI i n) (kk : AW S C d Q X k1 k2 np ls (.int (I p i.toNatClampNeg) :: st) (K, I, L, R, t)) : AW S C d Q X k1 k2 pc ls (.int i :: .ref p :: st) (K, I, L, R, t) := by
  intro p' l e s m args below meth c H la locs cells slots mc ms G CC hS hL hR hF h1 h2
  obtain ⟨hd, rfl, -⟩ := okd CC.2.2.2.2.2.2.2.2.2 hC rfl
  have hA := hR.ar (t := 1) hK
  exact W.bald CC.1 CC.2.1 hA ((hS.2.1 1 (by decide)).1 _ _) (arrV_kn _ _ _) (by rw [arrV_size]; exact inI_not hi) (arrV_read _ _ hi.2) rfl rfl hd (kk p' l e s m args below meth c H la locs cells slots mc ms G CC hS hL hR hF h1 h2)
theorem a_lald {p n : Nat} {i : Int32} (hC : look C pc = some (.laload, np, tgt, w)) (hK : K p = (4, n)) (hi : inI i n) (kk : AW S C d Q X k1 k2 np ls (.long (L p i.toNatClampNeg) :: st) (K, I, L, R, t)) : AW S C d Q X k1 k2 pc ls (.int i :: .ref p :: st) (K, I, L, R, t) := by
  intro p' l e s m args below meth c H la locs cells slots mc ms G CC hS hL hR hF h1 h2
  obtain ⟨hd, rfl, -⟩ := okd CC.2.2.2.2.2.2.2.2.2 hC rfl
  have hA := hR.ar (t := 2) hK
  exact W.lald CC.1 CC.2.1 hA ((hS.2.1 2 (by decide)).1 _ _) (arrV_kn _ _ _) (by rw [arrV_size]; exact inI_not hi) (arrV_read _ _ hi.2) rfl rfl hd (kk p' l e s m args below meth c H la locs cells slots mc ms G CC hS hL hR hF h1 h2)
theorem a_aald {p n q : Nat} {i : Int32} (hC : look C pc = some (.aaload, np, tgt, w)) (hK : K p = (5, n)) (hi : inI i n) (hq : R p i.toNatClampNeg = q) (kk : AW S C d Q X k1 k2 np ls (rv q :: st) (K, I, L, R, t)) : AW S C d Q X k1 k2 pc ls (.int i :: .ref p :: st) (K, I, L, R, t) := by
  intro p' l e s m args below meth c H la locs cells slots mc ms G CC hS hL hR hF h1 h2
  obtain ⟨hd, rfl, -⟩ := okd CC.2.2.2.2.2.2.2.2.2 hC rfl
  have hA := hR.ar (t := 3) hK
  refine W.aald CC.1 CC.2.1 hA ((hS.2.1 3 (by decide)).1 _ _) rfl (arrV_kn _ _ _) (by rw [arrV_size]; exact inI_not hi) (arrV_read _ _ hi.2) rfl rfl hd ?_
  show W p' l e _ s m args below meth c H locs cells slots _ (F0 m (pc + 1) la (mv G (rv (R p i.toNatClampNeg)) :: st.map (mv G)))
  rw [hq]
  exact kk p' l e s m args below meth c H la locs cells slots mc ms G CC hS hL hR hF h1 h2
theorem updV_ev2 {G : aG} {I : Nat → Nat → Int32} {L : Nat → Nat → Int64} {R : Nat → Nat → Nat} {p k : Nat} {x : Int32} : updV (fun j => ev G I L R 2 p j) k (.int x) = fun j => ev G (up2 I p k x) L R 2 p j := by
  funext j
  by_cases h : j = k
  · subst h; simp [updV, ev, up2]
  · simp [updV, ev, up2, h]
theorem updV_ev3 {G : aG} {I : Nat → Nat → Int32} {L : Nat → Nat → Int64} {R : Nat → Nat → Nat} {p k : Nat} {x : Int32} : updV (fun j => ev G I L R 3 p j) k (.int x) = fun j => ev G (up2 I p k x) L R 3 p j := by
  funext j
  by_cases h : j = k
  · subst h; simp [updV, ev, up2]
  · simp [updV, ev, up2, h]
theorem updV_ev4 {G : aG} {I : Nat → Nat → Int32} {L : Nat → Nat → Int64} {R : Nat → Nat → Nat} {p k : Nat} {x : Int64} : updV (fun j => ev G I L R 4 p j) k (.long x) = fun j => ev G I (up2 L p k x) R 4 p j := by
  funext j
  by_cases h : j = k
  · subst h; simp [updV, ev, up2]
  · simp [updV, ev, up2, h]
theorem updV_ev5 {G : aG} {I : Nat → Nat → Int32} {L : Nat → Nat → Int64} {R : Nat → Nat → Nat} {p k q : Nat} : updV (fun j => ev G I L R 5 p j) k (mv G (rv q)) = fun j => ev G I L (up2 R p k q) 5 p j := by
  funext j
  by_cases h : j = k
  · subst h; simp [updV, ev, up2]
  · simp [updV, ev, up2, h]
theorem a_iast {p n : Nat} {i x : Int32} (hC : look C pc = some (.iastore, np, tgt, w)) (hK : K p = (2, n)) (hi : inI i n) (kk : AW S C d Q X k1 k2 np ls st (K, up2 I p i.toNatClampNeg x, L, R, t)) : AW S C d Q X k1 k2 pc ls (.int x :: .int i :: .ref p :: st) (K, I, L, R, t) := by
  intro p' l e s m args below meth c H la locs cells slots mc ms G CC hS hL hR hF h1 h2
  obtain ⟨hd, rfl, -⟩ := okd CC.2.2.2.2.2.2.2.2.2 hC rfl
  have hA := hR.ar (t := 0) hK
  have hp : 200 ≤ p := hR.2.1 p (by show (K p).1 ≠ 0; rw [hK]; simp)
  refine W.iast CC.1 CC.2.1 hA ((hS.2.1 0 (by decide)).1 _ _) (arrV_kn _ _ _) (by rw [arrV_size]; exact inI_not hi) rfl rfl hd (fun H' e1 e2 e3 => ?_)
  refine kk p' l e s m args below meth c H' la _ cells slots mc ms G CC hS hL (Rep.set hR hp (fun q hq => up2_row hq) (fun _ _ => rfl) (fun _ _ => rfl) e2 e3 ?_) (hF.put e2 e3 (aA_ad hp)) h1 h2
  show cellA G (K, up2 I p i.toNatClampNeg x, L, R, t) H' p
  unfold cellA
  dsimp only
  rw [hK]
  show H'[ad G p]? = some (arrV _ n _)
  rw [e1, arrV_store, updV_ev2]
theorem a_bast {p n : Nat} {i x : Int32} (hC : look C pc = some (.bastore, np, tgt, w)) (hK : K p = (3, n)) (hi : inI i n) (hx : x.toInt8.toInt32 = x) (kk : AW S C d Q X k1 k2 np ls st (K, up2 I p i.toNatClampNeg x, L, R, t)) : AW S C d Q X k1 k2 pc ls (.int x :: .int i :: .ref p :: st) (K, I, L, R, t) := by
  intro p' l e s m args below meth c H la locs cells slots mc ms G CC hS hL hR hF h1 h2
  obtain ⟨hd, rfl, -⟩ := okd CC.2.2.2.2.2.2.2.2.2 hC rfl
  have hA := hR.ar (t := 1) hK
  have hp : 200 ≤ p := hR.2.1 p (by show (K p).1 ≠ 0; rw [hK]; simp)
  have hnx : narrow .byte (.int x) = .int x := by show Value.int x.toInt8.toInt32 = _; rw [hx]
  refine W.bast CC.1 CC.2.1 hA ((hS.2.1 1 (by decide)).1 _ _) (arrV_kn _ _ _) (by rw [arrV_size]; exact inI_not hi) rfl rfl hd (fun H' e1 e2 e3 => ?_)
  refine kk p' l e s m args below meth c H' la _ cells slots mc ms G CC hS hL (Rep.set hR hp (fun q hq => up2_row hq) (fun _ _ => rfl) (fun _ _ => rfl) e2 e3 ?_) (hF.put e2 e3 (aA_ad hp)) h1 h2
  show cellA G (K, up2 I p i.toNatClampNeg x, L, R, t) H' p
  unfold cellA
  dsimp only
  rw [hK]
  show H'[ad G p]? = some (arrV _ n _)
  rw [e1, hnx, arrV_store, updV_ev3]
theorem a_last {p n : Nat} {i : Int32} {x : Int64} (hC : look C pc = some (.lastore, np, tgt, w)) (hK : K p = (4, n)) (hi : inI i n) (kk : AW S C d Q X k1 k2 np ls st (K, I, up2 L p i.toNatClampNeg x, R, t)) : AW S C d Q X k1 k2 pc ls (.long x :: .int i :: .ref p :: st) (K, I, L, R, t) := by
  intro p' l e s m args below meth c H la locs cells slots mc ms G CC hS hL hR hF h1 h2
  obtain ⟨hd, rfl, -⟩ := okd CC.2.2.2.2.2.2.2.2.2 hC rfl
  have hA := hR.ar (t := 2) hK
  have hp : 200 ≤ p := hR.2.1 p (by show (K p).1 ≠ 0; rw [hK]; simp)
  refine W.last CC.1 CC.2.1 hA ((hS.2.1 2 (by decide)).1 _ _) (arrV_kn _ _ _) (by rw [arrV_size]; exact inI_not hi) rfl rfl hd (fun H' e1 e2 e3 => ?_)
  refine kk p' l e s m args below meth c H' la _ cells slots mc ms G CC hS hL (Rep.set hR hp (fun _ _ => rfl) (fun q hq => up2_row hq) (fun _ _ => rfl) e2 e3 ?_) (hF.put e2 e3 (aA_ad hp)) h1 h2
  show cellA G (K, I, up2 L p i.toNatClampNeg x, R, t) H' p
  unfold cellA
  dsimp only
  rw [hK]
  show H'[ad G p]? = some (arrV _ n _)
  rw [e1, arrV_store, updV_ev4]
/-- an array of streets takes a street -/
theorem a_aast {p n q : Nat} {i : Int32} (hC : look C pc = some (.aastore, np, tgt, w)) (hK : K p = (5, n)) (hKq : K q = (1, 5)) (hi : inI i n) (kk : AW S C d Q X k1 k2 np ls st (K, I, L, up2 R p i.toNatClampNeg (q + 1), t)) : AW S C d Q X k1 k2 pc ls (.ref q :: .int i :: .ref p :: st) (K, I, L, R, t) := by
  intro p' l e s m args below meth c H la locs cells slots mc ms G CC hS hL hR hF h1 h2
  obtain ⟨hd, rfl, -⟩ := okd CC.2.2.2.2.2.2.2.2.2 hC rfl
  have hA := hR.ar (t := 3) hK
  have hp : 200 ≤ p := hR.2.1 p (by show (K p).1 ≠ 0; rw [hK]; simp)
  obtain ⟨r, hr, cell, q1, q2, q3, q4⟩ := hR.ob hKq
  obtain ⟨-, hfc, kC, hkC, -⟩ := hS.1 5 r hr
  obtain ⟨kA, comp, a1, a2, a3, a4⟩ := (hS.2.1 3 (by decide)).2
  have hcc : comp = G.1.1 5 := by
    cases hr
    exact Option.some.inj (a3.symm.trans hfc)
  subst hcc
  refine W.aast CC.1 CC.2.1 hA (arrV_ks _ _ _) (arrV_kn _ _ _) a1 a2 rfl hkC ⟨hi.1, by rw [arrV_size]; exact hi.2⟩ q1 (fun z => by rw [q3]; simp) (by rw [q2]; exact hkC) (by rw [q2]; exact va_asg _ _) rfl rfl hd (fun H' e1 e2 e3 => ?_)
  refine kk p' l e s m args below meth c H' la _ cells slots mc ms G CC hS hL (Rep.set hR hp (fun _ _ => rfl) (fun _ _ => rfl) (fun q hq => up2_row hq) e2 e3 ?_) (hF.put e2 e3 (aA_ad hp)) h1 h2
  show cellA G (K, I, L, up2 R p i.toNatClampNeg (q + 1), t) H' p
  unfold cellA
  dsimp only
  rw [hK]
  show H'[ad G p]? = some (arrV _ n _)
  rw [e1, arrV_store, ← updV_ev5]
  rfl
/-! answers -/
theorem a_iret {x : Int32} (hC : look C pc = some (.ireturn, np, tgt, w)) (hr : C.2.2.2.1 = some .int) (hQ : Q (some (.int x)) h) : AW S C d Q X k1 k2 pc ls [.int x] h := by
  intro p' l e s m args below meth c H la locs cells slots mc ms G CC hS hL hR hF h1 h2
  obtain ⟨hd, rfl, -⟩ := okd CC.2.2.2.2.2.2.2.2.2 hC rfl
  have hlk := CC.2.2.2.1
  refine vx_ret (W.widen (k := mc) (n := ms) (by omega) (by omega) (W.iret CC.1 CC.2.1 (CC.2.2.1.trans hr) (fun t ht hW => ⟨some (.int x), h, rfl, hQ, by rw [ht]; exact hR, hF.F ht⟩) hF.2.2 hd hlk))
theorem a_zret {x : Int32} (hC : look C pc = some (.ireturn, np, tgt, w)) (hr : C.2.2.2.1 = some .boolean) (hx : narrow .boolean (.int x) = .int x) (hQ : Q (some (.int x)) h) : AW S C d Q X k1 k2 pc ls [.int x] h := by
  intro p' l e s m args below meth c H la locs cells slots mc ms G CC hS hL hR hF h1 h2
  obtain ⟨hd, rfl, -⟩ := okd CC.2.2.2.2.2.2.2.2.2 hC rfl
  have hlk := CC.2.2.2.1
  refine vx_ret (W.widen (k := mc) (n := ms) (by omega) (by omega) (W.zret CC.1 CC.2.1 (CC.2.2.1.trans hr) hx (fun t ht hW => ⟨some (.int x), h, rfl, hQ, by rw [ht]; exact hR, hF.F ht⟩) hF.2.2 hd hlk))
theorem a_cret {x : Int32} (hC : look C pc = some (.ireturn, np, tgt, w)) (hr : C.2.2.2.1 = some .char) (hx : narrow .char (.int x) = .int x) (hQ : Q (some (.int x)) h) : AW S C d Q X k1 k2 pc ls [.int x] h := by
  intro p' l e s m args below meth c H la locs cells slots mc ms G CC hS hL hR hF h1 h2
  obtain ⟨hd, rfl, -⟩ := okd CC.2.2.2.2.2.2.2.2.2 hC rfl
  have hlk := CC.2.2.2.1
  refine vx_ret (W.widen (k := mc) (n := ms) (by omega) (by omega) (W.zret CC.1 CC.2.1 (CC.2.2.1.trans hr) hx (fun t ht hW => ⟨some (.int x), h, rfl, hQ, by rw [ht]; exact hR, hF.F ht⟩) hF.2.2 hd hlk))
theorem a_lret {x : Int64} (hC : look C pc = some (.lreturn, np, tgt, w)) (hr : C.2.2.2.1 = some .long) (hQ : Q (some (.long x)) h) : AW S C d Q X k1 k2 pc ls [.long x] h := by
  intro p' l e s m args below meth c H la locs cells slots mc ms G CC hS hL hR hF h1 h2
  obtain ⟨hd, rfl, -⟩ := okd CC.2.2.2.2.2.2.2.2.2 hC rfl
  have hlk := CC.2.2.2.1
  refine vx_ret (W.widen (k := mc) (n := ms) (by omega) (by omega) (W.lret CC.1 CC.2.1 (CC.2.2.1.trans hr) (fun t ht hW => ⟨some (.long x), h, rfl, hQ, by rw [ht]; exact hR, hF.F ht⟩) hF.2.2 hd hlk))
theorem a_vret (hC : look C pc = some (.return_, np, tgt, w)) (hr : C.2.2.2.1 = none) (hQ : Q none h) : AW S C d Q X k1 k2 pc ls [] h := by
  intro p' l e s m args below meth c H la locs cells slots mc ms G CC hS hL hR hF h1 h2
  obtain ⟨hd, rfl, -⟩ := okd CC.2.2.2.2.2.2.2.2.2 hC rfl
  have hlk := CC.2.2.2.1
  refine vx_ret (W.widen (k := mc) (n := ms) (by omega) (by omega) (W.vret CC.1 CC.2.1 (CC.2.2.1.trans hr) (fun t ht hW => ⟨none, h, rfl, hQ, by rw [ht]; exact hR, hF.F ht⟩) hF.2.2 hd hlk))
theorem a_aret {q : Nat} {rt : FieldType} (hC : look C pc = some (.areturn, np, tgt, w)) (hr : C.2.2.2.1 = some rt) (hrt : isRefTy rt = true) (hQ : Q (some (rv q)) h) : AW S C d Q X k1 k2 pc ls [rv q] h := by
  intro p' l e s m args below meth c H la locs cells slots mc ms G CC hS hL hR hF h1 h2
  obtain ⟨hd, rfl, -⟩ := okd CC.2.2.2.2.2.2.2.2.2 hC rfl
  have hlk := CC.2.2.2.1
  refine vx_ret (W.widen (k := mc) (n := ms) (by omega) (by omega) (W.aret CC.1 CC.2.1 (CC.2.2.1.trans hr) ?_ (mv_rv_or G q) (fun t ht hW => ⟨some (rv q), h, rfl, hQ, by rw [ht]; exact hR, hF.F ht⟩) hF.2.2 hd hlk))
  cases rt <;> first | (cases hrt; done) | exact Or.inl ⟨_, rfl⟩ | exact Or.inr ⟨_, rfl⟩
end A7
end
section
/-! ===== the rules of AW: a method's contract, calls ===== -/
theorem Rep.frames {G : aG} {h : aH} {U : State} (a : Array Value) (g : JFrame) (mk : MethodId) (hR : Rep G h U.heap) : Rep G h (U.calling g mk a).heap := hR
theorem SW.frames {S : aS} {G : aG} {U : State} (a : Array Value) (g : JFrame) (mk : MethodId) (h : SW S G U) : SW S G (U.calling g mk a) := SW.go (U := U.calling g mk a) (State.WarmedH.refl U) (fun _ _ _ => rfl) h
theorem PcM.blind {S : aS} {G : aG} {args : List Value} {h : aH} : FrameBlind (PcM S G args h) := fun a U g mk q => ⟨q.1, Rep.frames a g mk q.2.1, SW.frames a g mk q.2.2⟩
def entL (args : List Value) (n : Nat) : List (Option Value) := args.map some ++ List.replicate (n - args.length) none
theorem lg_app {l r : List (Option Value)} {i : Nat} {v : Value} (h : lg (l ++ r) i = some v) (hr : ∀ j, lg r j = none) : lg l i = some v := by
  induction l generalizing i with
  | nil => rw [List.nil_append, hr] at h; cases h
  | cons a l ih =>
    rcases i with _ | i
    · exact h
    · exact ih h
theorem lg_none (n : Nat) : ∀ j, lg (List.replicate n (none : Option Value)) j = none := by
  induction n with
  | zero => intro j; rfl
  | succ n ih =>
    intro j
    rw [List.replicate_succ]
    rcases j with _ | j
    · rfl
    · exact ih j
theorem lg_args {G : aG} {args : List Value} (hc : ∀ v ∈ args, v.category = 1) {i n : Nat} {v : Value} (h : lg (args.map some) i = some v) : (n + i, mv G v) ∈ lv_args n (args.map (mv G)) := by
  induction args generalizing i n with
  | nil => simp [lg] at h
  | cons a r ih =>
    have h1 : (mv G a).category = 1 := (mv_cat G a).trans (hc a List.mem_cons_self)
    simp only [List.map_cons, lv_args]
    rw [if_neg (by omega)]
    rcases i with _ | i
    · simp only [List.map_cons, lg] at h
      cases h
      exact List.mem_cons_self
    · have := ih (fun v hv => hc v (List.mem_cons_of_mem _ hv)) (n := n + 1) h
      rw [show n + 1 + i = n + (i + 1) by omega] at this
      exact List.mem_cons_of_mem _ this
theorem sl_len {G : aG} {args : List Value} (hc : ∀ v ∈ args, v.category = 1) : (lg_sl (args.map (mv G))).length = args.length := by
  induction args with
  | nil => rfl
  | cons a r ih =>
    have h1 : ¬ (mv G a).category = 2 := by rw [mv_cat, hc a List.mem_cons_self]; decide
    have := ih (fun v hv => hc v (List.mem_cons_of_mem _ hv))
    unfold lg_sl at this ⊢
    rw [List.map_cons, List.flatMap_cons, if_neg h1]
    simp [this]
/-- THE CONTRACT OUT OF THE JUDGEMENT -/
theorem Sp_of {S : aS} {C : aM} {d k1 k2 : Nat} {args : List Value} {h : aH} {Q : Option Value → aH → Prop} {X : String → aH → Prop} (hO : okM C = true) (hc : args.all (fun v => v.category == 1) = true) (hn : Nat.ble args.length C.2.2.1 = true)
    (k : AW S C d Q X k1 k2 0 (entL args C.2.2.1) [] h) : Sp S C d k1 k2 args h Q X := by
  intro l G hl
  obtain ⟨hpl, hok⟩ : plainName C.1.cls = true ∧ C.2.2.2.2.2.all (fun r => r.all (okE C)) = true := by
    simpa [okM, Bool.and_eq_true] using hO
  have hc' : ∀ v ∈ args, v.category = 1 := fun v hv => by simpa using List.all_eq_true.mp hc v hv
  have hn' := Nat.le_of_ble_eq_true hn
  have body : ∀ (p : Program) (e : Env) (s : State) (m : MethodId) (av : Array Value) (below : List Frame) (meth : Method) (c : Code) (s₁ : State), BodyLoose p l C.1 (headSpec [mW C] (rmD d k1 k2)) C.2.1 C.2.2.1 C.2.2.2.1 e s m av below meth c s₁ → c.maxLocals = C.2.2.1 → c.exceptionTable.toList = tableOf C.2.2.2.2.1 → PcM S G args h av s →
      W p l e (headSpec [mW C] (rmD d k1 k2)).room s m av below meth c s.heap [] 0 0 (vx_MQ below (QcM G Q) (XcM G X) av s k1 k2 (aA G)) (entryFrame m av C.2.2.1) := by
    intro p e s m av below meth c s₁ B hml htab hP
    obtain ⟨rfl, hR, hS⟩ := hP
    rw [lg_entry_eq]
    have hl0 := lv_entry (args.map (mv G)) (n := C.2.2.1) (by rw [sl_len hc']; exact hn')
    refine k p l e s m _ below meth c s.heap _ [] 0 0 k1 k2 G ⟨B.exec, B.bytes, B.returns, B.notSynchronized, hml, findClass_of_methodNamed B.named, (name_of_methodNamed B.named B.method).1, hl, htab, okM_of hok⟩ hS ⟨hl0.1, hl0.2.1, fun i v hi => ?_⟩ hR va_S.rf (by omega) (by omega)
    have h1 := lg_app hi (lg_none _)
    have h2 := hl0.2.2 _ (lg_args (n := 0) hc' h1)
    simpa using h2
  by_cases hh : C.2.2.2.2.1 = []
  · refine vx_ofW (cc := C.2.1) (maxL := C.2.2.1) (ret := C.2.2.2.1) (ws' := []) hpl (by unfold mW; rw [hh]) ?_
    intro p e s m av below meth c s₁ B hml ht hP
    refine body p e s m av below meth c s₁ B hml ?_ hP
    rw [hh]
    exact List.eq_nil_iff_forall_not_mem.mpr ht
  · have hw : mW C = .codeWith C.1 C.2.1 C.2.2.1 C.2.2.2.1 C.2.2.2.2.1 := by
      unfold mW
      split
      · next z => exact absurd z hh
      · rfl
    refine vx_ofWH (cc := C.2.1) (maxL := C.2.2.1) (ret := C.2.2.2.1) (hh := C.2.2.2.2.1) (ws' := []) hpl (by rw [hw]) ?_
    intro p e s m av below meth c s₁ B hml hP
    exact body p e s m av below meth c s₁ B hml (vx_table (x := C.1) B (atoms_spec (ws := [mW C]) B.pre _ (by rw [hw]; exact List.mem_cons_self))) hP
theorem Sp.mono {S : aS} {C : aM} {d k1 k2 : Nat} {args : List Value} {h : aH} {Q Q' : Option Value → aH → Prop} {X X' : String → aH → Prop} (hs : Sp S C d k1 k2 args h Q X) (hQ : ∀ v h', Q v h' → Q' v h') (hX : ∀ E h', X E h' → X' E h') : Sp S C d k1 k2 args h Q' X' := by
  intro l G hl p e ha hc hk s m av below hf hP hK hp
  have := hs l G hl p e ha hc hk s m av below hf hP hK hp
  obtain ⟨k, o, h1, h2, h3, h4⟩ := this
  refine ⟨k, o, h1, h2, h3, ?_⟩
  rcases h4 with ⟨⟨v, h', e1, e2, e3⟩, hL⟩ | ⟨q, e1, E, ce, L, ⟨h', x1, x2⟩, hr⟩
  · exact Or.inl ⟨⟨v, h', e1, hQ _ _ e2, e3⟩, hL⟩
  · exact Or.inr ⟨q, e1, E, ce, L, ⟨h', hX _ _ x1, x2⟩, hr⟩
section A8
variable {p : Program} {l : Launch} {e : Env} {R : Room} {s : State} {m : MethodId} {args : Array Value} {below : List Frame} {meth : Method} {c : Code} {H : Heap} {locs : List Loc} {cells slots : Nat} {QW : State → Prop}
/-- behind a call -/
theorem go_run {G : aG} {Q' : Option Value → aH → Prop} {X' : String → aH → Prop} {j1 j2 pc : Nat} {la : Array Slot} {st0 rest : List Value} {a : Array Value}
    (hr : vx_Run p l e R s m args below meth c H locs cells slots j1 j2 (F0 m pc la st0) rest (QcM G Q' a) (XcM G X') (aA G)) (hF : va_S (aA G) s.heap H locs)
    (kr : ∀ v h' H' locs', Q' v h' → Rep G h' H' → va_S (aA G) s.heap H' locs' → W p l e R s m args below meth c H' locs' (cells + j1) (slots + j2) QW (F0 m (pc + 3) la ((Option.map (mv G) v).toList ++ rest)))
    (kx : ∀ E h' q ce H' locs', X' E h' → Rep G h' H' → va_S (aA G) s.heap H' locs' → H'[q]? = some ce → ce.vm = .none → s.vm.findClass E = some ce.cls → vx_W p l e R s m args below meth c H' locs' (cells + j1) (slots + j2) QW (F0 m pc la rest) q) :
    W p l e R s m args below meth c H locs cells slots QW (F0 m pc la st0) := by
  intro T hT X
  have keep : ∀ {st₀ t T' : State} {L : List Loc}, st₀.heap = H → T'.heap = t.heap → va_F (aA G) st₀ t → (∀ q ∈ L, aA G q.base) → va_S (aA G) s.heap T'.heap (locs ++ L) := by
    intro st₀ t T' L h0 e1 hf hL
    exact (vx_keep h0 e1 hF (fun _ _ z => z) (fun _ z => z) hL hf).2.2
  rcases hr T hT X with ⟨v, st₀, t, T', L, h0, X', hL, e1, e2, ⟨v', h', q1, q2, q3, q4⟩, st⟩ | ⟨q, st₀, t, T', L, E, ce, h0, X', hL, e1, e2, ⟨h', q2, q3, q4⟩, hce, hcv, hcl, st⟩
  · cases q1
    obtain ⟨t2, a1, b1⟩ := kr v' h' T'.heap (locs ++ L) q2 (by rw [e1]; exact q3) (keep h0 e1 q4 hL) T' rfl X'
    exact ⟨t2, st t2 a1, b1⟩
  · obtain ⟨t2, a1, b1⟩ := kx E h' q ce T'.heap (locs ++ L) q2 (by rw [e1]; exact q3) (keep h0 e1 q4 hL) (by rw [e1]; exact hce) hcv hcl T' rfl X'
    exact ⟨t2, st.trans a1, b1⟩
end A8
/-- the good words of the tables -/
def gT : List Cond := lw_tbl.filter goodWord
theorem gT_ok {S : aS} {G : aG} {s : State} {args : Array Value} (hS : SW S G s) : ∀ w ∈ gT, w.before args s = true := fun w hw => by
  obtain ⟨h1, h2⟩ := List.mem_filter.mp hw
  exact hS.2.2.1 w h1 (by rw [h2]; rfl) args
theorem inT_gT {w : Cond} (h : inT w) : w ∈ gT := List.mem_filter.mpr h
theorem good_gT {ws : List Cond} (h : ∀ w ∈ ws, inT w) : GoodIn gT ws := fun w hw => ⟨inT_gT (h w hw), good_of_word (h w hw).2⟩
theorem mW_code {C : aM} (h : C.2.2.2.2.1 = []) : mW C = .code C.1 C.2.1 C.2.2.1 C.2.2.2.1 := by unfold mW; rw [h]
theorem mW_codeW {C : aM} (h : C.2.2.2.2.1 ≠ []) : mW C = .codeWith C.1 C.2.1 C.2.2.1 C.2.2.2.1 C.2.2.2.2.1 := by
  unfold mW
  split
  · next z => exact absurd z h
  · rfl
theorem MO.ws {C : aM} {n : Nat} (h : MO C n) : ∀ w ∈ [mW C], inT w := fun w hw => by
  rw [mW_code h.1, List.mem_singleton] at hw
  subst hw
  exact h.2.1
section A9
variable {S : aS} {C C' : aM} {d d' : Nat} {Q Q' : Option Value → aH → Prop} {X X' : String → aH → Prop} {k1 k2 j1 j2 pc np tgt n : Nat} {w : Int32} {ls ls' : List (Option Value)} {st st' st0 : List Value} {h : aH} {ins : Instr} {As : List Value}
/-- what a call asks of the room: d' + 1 ≤ d, and of the stack below -/
def cOk (d d' j1 j2 k1 k2 : Nat) (st : List Value) : Bool := Nat.ble (d' + 1) d && (Nat.ble j1 k1 && (Nat.ble j2 k2 && Nat.ble (st.map fun v => v.category).sum 8))
theorem cOk_spec {d d' j1 j2 k1 k2 : Nat} {st : List Value} (h : cOk d d' j1 j2 k1 k2 st = true) : d' + 1 ≤ d ∧ j1 ≤ k1 ∧ j2 ≤ k2 ∧ (st.map fun v => v.category).sum ≤ 8 := by
  simp only [cOk, Bool.and_eq_true] at h
  exact ⟨Nat.le_of_ble_eq_true h.1, Nat.le_of_ble_eq_true h.2.1, Nat.le_of_ble_eq_true h.2.2.1, Nat.le_of_ble_eq_true h.2.2.2⟩
theorem cat_map (G : aG) (st : List Value) : ((st.map (mv G)).map fun v => v.category).sum = (st.map fun v => v.category).sum := by
  rw [List.map_map]
  congr 1
  exact List.map_congr_left fun v _ => mv_cat G v
/-- thrown through a method without handlers -/
theorem go_out {p : Program} {l : Launch} {e : Env} {s : State} {m : MethodId} {args : Array Value} {below : List Frame} {meth : Method} {c : Code} {H' : Heap} {la : Array Slot} {locs' : List Loc} {cells slots mc ms : Nat} {G : aG} {E : String} {h' : aH} {q : Addr} {ce : Cell} {rest : List Value}
    (CC : CX C l p s m meth c) (hh : C.2.2.2.2.1 = []) (hX : X E h') (hR : Rep G h' H') (hF : va_S (aA G) s.heap H' locs') (hce : H'[q]? = some ce) (hcv : ce.vm = .none) (hcl : s.vm.findClass E = some ce.cls) (h1 : cells ≤ mc) (h2 : slots ≤ ms) :
    vx_W p l e (rmD d mc ms) s m args below meth c H' locs' cells slots (vx_MQ below (QcM G Q) (XcM G X) args s mc ms (aA G)) (F0 m pc la rest) q :=
  vx_out (fun x hx => by rw [CC.2.2.2.2.2.2.2.2.1, hh] at hx; cases hx) CC.2.2.2.1 hce hcv hcl (fun t ht hA => ⟨h', hX, by rw [ht]; exact hR, hF.F ht⟩) hF.2.2 h1 h2
/-- the words of a call of a method known by its callers -/
theorem cb_of {own : String} {idx : Nat} {s : State} {args : Array Value} {mc ms : Nat} {G : aG} (hS : SW S G s) (hM : MO C' n) (hl : inT (.methodLink own idx C'.1)) (hd : d' + 1 ≤ d) :
    CallB (rmD d mc ms) s args own idx C'.1 C'.2.1 C'.2.2.1 C'.2.2.2.1 [mW C'] (rmD d' j1 j2) j1 j2 n := by
  have := hM.2.2.2.2
  refine callB_of (Ts := gT) (ws' := []) n (gT_ok hS) (good_gT hM.ws) (by rw [mW_code hM.1]) rfl rfl (gT_ok hS _ (inT_gT hM.2.2.1)) (gT_ok hS _ (inT_gT hl)) hM.2.2.2.1 ⟨by show d' + 998 + 1 ≤ d + 998; omega, ?_⟩
  show 8 + (C'.2.2.1 + 11) + 80 * d' ≤ 80 * d
  omega
theorem cn_of {own host : String} {idx : Nat} {s : State} {args : Array Value} {mc ms : Nat} {G : aG} (hS : SW S G s) (hM : MO C' n) (hl : Cond.methodLinkNest own idx C'.1 host ∈ lw_tbl) (hd : d' + 1 ≤ d) :
    va_CN (rmD d mc ms) s args own idx C'.1 host C'.2.1 C'.2.2.1 C'.2.2.2.1 [mW C'] (rmD d' j1 j2) j1 j2 n := by
  have := hM.2.2.2.2
  refine va_cnB (Ts := gT) (ws' := []) n (gT_ok hS) (good_gT hM.ws) (by rw [mW_code hM.1]) rfl rfl (va_Nw.of rfl (hS.2.2.1 _ hl (by simp [isNest]) #[])) (gT_ok hS _ (inT_gT hM.2.2.1)) hM.2.2.2.1 ⟨by show d' + 998 + 1 ≤ d + 998; omega, ?_⟩
  show 8 + (C'.2.2.1 + 11) + 80 * d' ≤ 80 * d
  omega
theorem pc_of {s : State} {H : Heap} {G : aG} (hS : SW S G s) (hR : Rep G h H) {locs : List Loc} (hF : va_S (aA G) s.heap H locs) : ∀ U : State, U.heap = H → s.WarmedH U.vm → PcM S G As h (As.map (mv G)).toArray U := fun U hU hW => ⟨rfl, by rw [hU]; exact hR, SW.go hW (fun q hq hn => by rw [hU]; exact hF.2.1 q hq hn) hS⟩
/-- the receiver's class -/
def rcv (h : aH) (q : Nat) (cn : String) : Prop := ∃ ci r, h.1 q = (1, ci) ∧ aC[ci]? = some r ∧ r.1.1 = cn
theorem rcv_of {s : State} {H : Heap} {G : aG} {q : Nat} {cn : String} (hS : SW S G s) (hR : Rep G h H) (hq : rcv h q cn) : ∃ cellB : Cell, H[ad G q]? = some cellB ∧ cellB.vm.isStatics = false ∧ s.vm.findClass cn = some cellB.cls := by
  obtain ⟨ci, r, hK, hr, rfl⟩ := hq
  obtain ⟨r', hr', cell, q1, q2, q3, q4⟩ := hR.ob hK
  cases hr.symm.trans hr'
  exact ⟨cell, q1, by rw [q3]; rfl, by rw [q2]; exact (hS.1 ci r hr).2.1⟩
/-- a call's end, for all kinds -/
theorem a_end {p : Program} {l : Launch} {e : Env} {s : State} {m : MethodId} {args : Array Value} {below : List Frame} {meth : Method} {c : Code} {H : Heap} {la : Array Slot} {locs : List Loc} {cells slots mc ms : Nat} {G : aG} {a : Array Value} {stm : List Value}
    (CC : CX C l p s m meth c) (hS : SW S G s) (hL : HL G la C.2.2.1 ls) (hF : va_S (aA G) s.heap H locs) (h1 : cells + k1 ≤ mc) (h2 : slots + k2 ≤ ms) (g1 : j1 ≤ k1) (g2 : j2 ≤ k2) (hh : C.2.2.2.2.1 = [])
    (hr : vx_Run p l e (rmD d mc ms) s m args below meth c H locs cells slots j1 j2 (F0 m pc la stm) (st.map (mv G)) (QcM G Q' a) (XcM G X') (aA G))
    (kr : ∀ v h', Q' v h' → AW S C d Q X (k1 - j1) (k2 - j2) (pc + 3) ls (v.toList ++ st) h') (kx : ∀ E h', X' E h' → X E h') :
    W p l e (rmD d mc ms) s m args below meth c H locs cells slots (vx_MQ below (QcM G Q) (XcM G X) args s mc ms (aA G)) (F0 m pc la stm) := by
  refine go_run hr hF (fun v h' H' locs' q1 q2 q3 => ?_) (fun E h' q ce H' locs' q1 q2 q3 q4 q5 q6 => go_out CC hh (kx _ _ q1) q2 q3 q4 q5 q6 (by omega) (by omega))
  have K := kr v h' q1 p l e s m args below meth c H' la locs' (cells + j1) (slots + j2) mc ms G CC hS hL q2 q3 (by omega) (by omega)
  have e1 : (v.toList ++ st).map (mv G) = (Option.map (mv G) v).toList ++ st.map (mv G) := by cases v <;> simp
  rw [e1] at K
  exact K
theorem a_callV {idx q : Nat} (hC : look C pc = some (.invokevirtual idx, np, tgt, w)) (hl : LK C.1.cls idx C') (hM : MOv C' n) (hs : Sp S C' d' j1 j2 (.ref q :: As) h Q' X') (hn : As.length = n) (h0 : st0 = As.reverse ++ .ref q :: st) (ho : cOk d d' j1 j2 k1 k2 st = true) (hq : rcv h q C'.1.cls) (hh : C.2.2.2.2.1 = [])
    (kr : ∀ v h', Q' v h' → AW S C d Q X (k1 - j1) (k2 - j2) np ls (v.toList ++ st) h') (kx : ∀ E h', X' E h' → X E h') : AW S C d Q X k1 k2 pc ls st0 h := by
  intro p l e s m args below meth c H la locs cells slots mc ms G CC hS hL hR hF h1 h2
  obtain ⟨hd, rfl, -⟩ := okd CC.2.2.2.2.2.2.2.2.2 hC rfl
  obtain ⟨g0, g1, g2, g3⟩ := cOk_spec ho
  subst h0
  refine a_end CC hS hL hF h1 h2 g1 g2 hh (vx_runV (Ts := gT) (As := As.map (mv G)) (b := ad G q) ⟨CC.1, CC.2.1, CC.2.2.2.2.1, CC.2.2.2.2.2.1, gT_ok hS⟩ (hs l G CC.2.2.2.2.2.2.2.1) ⟨cb_of hS hM.1 hl g0, gT_ok hS _ (inT_gT hM.2.1), gT_ok hS _ (inT_gT hM.2.2)⟩ ⟨PcM.blind, rcv_of hS hR hq, pc_of (As := .ref q :: As) hS hR hF⟩ rfl (by simpa using hn) hL.1 (by simp [mv]) (lv_room (by rw [cat_map]; exact g3)) hd ⟨by show cells + j1 ≤ mc; omega, by show slots + j2 ≤ ms; omega⟩) kr kx
theorem a_callN {idx q : Nat} (hC : look C pc = some (.invokevirtual idx, np, tgt, w)) (hl : LKn C.1.cls idx C') (hM : MOv C' n) (hs : Sp S C' d' j1 j2 (.ref q :: As) h Q' X') (hn : As.length = n) (h0 : st0 = As.reverse ++ .ref q :: st) (ho : cOk d d' j1 j2 k1 k2 st = true) (hq : rcv h q C'.1.cls) (hh : C.2.2.2.2.1 = [])
    (kr : ∀ v h', Q' v h' → AW S C d Q X (k1 - j1) (k2 - j2) np ls (v.toList ++ st) h') (kx : ∀ E h', X' E h' → X E h') : AW S C d Q X k1 k2 pc ls st0 h := by
  intro p l e s m args below meth c H la locs cells slots mc ms G CC hS hL hR hF h1 h2
  obtain ⟨hd, rfl, -⟩ := okd CC.2.2.2.2.2.2.2.2.2 hC rfl
  obtain ⟨g0, g1, g2, g3⟩ := cOk_spec ho
  subst h0
  obtain ⟨host, hl⟩ := hl
  refine a_end CC hS hL hF h1 h2 g1 g2 hh (vx_runVN (Ts := gT) (As := As.map (mv G)) (b := ad G q) ⟨CC.1, CC.2.1, CC.2.2.2.2.1, CC.2.2.2.2.2.1, gT_ok hS⟩ (hs l G CC.2.2.2.2.2.2.2.1) ⟨cn_of hS hM.1 hl g0, gT_ok hS _ (inT_gT hM.2.1), gT_ok hS _ (inT_gT hM.2.2)⟩ ⟨PcM.blind, rcv_of hS hR hq, pc_of (As := .ref q :: As) hS hR hF⟩ rfl (by simpa using hn) hL.1 (by simp [mv]) (lv_room (by rw [cat_map]; exact g3)) hd ⟨by show cells + j1 ≤ mc; omega, by show slots + j2 ≤ ms; omega⟩) kr kx
theorem a_callS {idx : Nat} (hC : look C pc = some (.invokestatic idx, np, tgt, w)) (hl : LK C.1.cls idx C') (hM : MOs C' n) (hs : Sp S C' d' j1 j2 As h Q' X') (hn : As.length = n) (h0 : st0 = As.reverse ++ st) (ho : cOk d d' j1 j2 k1 k2 st = true) (hh : C.2.2.2.2.1 = [])
    (kr : ∀ v h', Q' v h' → AW S C d Q X (k1 - j1) (k2 - j2) np ls (v.toList ++ st) h') (kx : ∀ E h', X' E h' → X E h') : AW S C d Q X k1 k2 pc ls st0 h := by
  intro p l e s m args below meth c H la locs cells slots mc ms G CC hS hL hR hF h1 h2
  obtain ⟨hd, rfl, -⟩ := okd CC.2.2.2.2.2.2.2.2.2 hC rfl
  obtain ⟨g0, g1, g2, g3⟩ := cOk_spec ho
  subst h0
  refine a_end CC hS hL hF h1 h2 g1 g2 hh (vx_runS (Ts := gT) (As := As.map (mv G)) ⟨CC.1, CC.2.1, CC.2.2.2.2.1, CC.2.2.2.2.2.1, gT_ok hS⟩ (hs l G CC.2.2.2.2.2.2.2.1) ⟨cb_of hS hM.1 hl g0, gT_ok hS _ (inT_gT hM.2)⟩ ⟨PcM.blind, pc_of hS hR hF⟩ rfl (by simpa using hn) hL.1 (by simp) (lv_room (by rw [cat_map]; exact g3)) hd ⟨by show cells + j1 ≤ mc; omega, by show slots + j2 ≤ ms; omega⟩) kr kx
theorem a_callSN {idx : Nat} (hC : look C pc = some (.invokestatic idx, np, tgt, w)) (hl : LKn C.1.cls idx C') (hM : MOs C' n) (hs : Sp S C' d' j1 j2 As h Q' X') (hn : As.length = n) (h0 : st0 = As.reverse ++ st) (ho : cOk d d' j1 j2 k1 k2 st = true) (hh : C.2.2.2.2.1 = [])
    (kr : ∀ v h', Q' v h' → AW S C d Q X (k1 - j1) (k2 - j2) np ls (v.toList ++ st) h') (kx : ∀ E h', X' E h' → X E h') : AW S C d Q X k1 k2 pc ls st0 h := by
  intro p l e s m args below meth c H la locs cells slots mc ms G CC hS hL hR hF h1 h2
  obtain ⟨hd, rfl, -⟩ := okd CC.2.2.2.2.2.2.2.2.2 hC rfl
  obtain ⟨g0, g1, g2, g3⟩ := cOk_spec ho
  subst h0
  obtain ⟨host, hl⟩ := hl
  refine a_end CC hS hL hF h1 h2 g1 g2 hh (vx_runSN (Ts := gT) (As := As.map (mv G)) ⟨CC.1, CC.2.1, CC.2.2.2.2.1, CC.2.2.2.2.2.1, gT_ok hS⟩ (hs l G CC.2.2.2.2.2.2.2.1) ⟨cn_of hS hM.1 hl g0, gT_ok hS _ (inT_gT hM.2), trivial⟩ ⟨PcM.blind, pc_of hS hR hF⟩ rfl (by simpa using hn) hL.1 (by simp) (lv_room (by rw [cat_map]; exact g3)) hd ⟨by show cells + j1 ≤ mc; omega, by show slots + j2 ≤ ms; omega⟩) kr kx
theorem a_callI {idx q : Nat} (hC : look C pc = some (.invokespecial idx, np, tgt, w)) (hl : LK C.1.cls idx C') (hM : MOi C' n) (hs : Sp S C' d' j1 j2 (.ref q :: As) h Q' X') (hn : As.length = n) (h0 : st0 = As.reverse ++ .ref q :: st) (ho : cOk d d' j1 j2 k1 k2 st = true) (hh : C.2.2.2.2.1 = [])
    (kr : ∀ v h', Q' v h' → AW S C d Q X (k1 - j1) (k2 - j2) np ls (v.toList ++ st) h') (kx : ∀ E h', X' E h' → X E h') : AW S C d Q X k1 k2 pc ls st0 h := by
  intro p l e s m args below meth c H la locs cells slots mc ms G CC hS hL hR hF h1 h2
  obtain ⟨hd, rfl, -⟩ := okd CC.2.2.2.2.2.2.2.2.2 hC rfl
  obtain ⟨g0, g1, g2, g3⟩ := cOk_spec ho
  subst h0
  have cb := cb_of (args := args) (mc := mc) (ms := ms) (j1 := j1) (j2 := j2) hS hM.1 hl g0
  rw [hM.2.2.2] at cb
  refine a_end CC hS hL hF h1 h2 g1 g2 hh (vx_runI (Ts := gT) (As := As.map (mv G)) (b := ad G q) ⟨CC.1, CC.2.1, CC.2.2.2.2.1, CC.2.2.2.2.2.1, gT_ok hS⟩ (hs l G CC.2.2.2.2.2.2.2.1) ⟨cb, hM.2.2.1, gT_ok hS _ (inT_gT hM.2.1)⟩ ⟨PcM.blind, pc_of (As := .ref q :: As) hS hR hF⟩ rfl (by simpa using hn) hL.1 (by simp [mv]) (lv_room (by rw [cat_map]; exact g3)) hd ⟨by show cells + j1 ≤ mc; omega, by show slots + j2 ≤ ms; omega⟩) kr kx
theorem a_callIN {idx q : Nat} (hC : look C pc = some (.invokespecial idx, np, tgt, w)) (hl : LKn C.1.cls idx C') (hM : MOi C' n) (hs : Sp S C' d' j1 j2 (.ref q :: As) h Q' X') (hn : As.length = n) (h0 : st0 = As.reverse ++ .ref q :: st) (ho : cOk d d' j1 j2 k1 k2 st = true) (hh : C.2.2.2.2.1 = [])
    (kr : ∀ v h', Q' v h' → AW S C d Q X (k1 - j1) (k2 - j2) np ls (v.toList ++ st) h') (kx : ∀ E h', X' E h' → X E h') : AW S C d Q X k1 k2 pc ls st0 h := by
  intro p l e s m args below meth c H la locs cells slots mc ms G CC hS hL hR hF h1 h2
  obtain ⟨hd, rfl, -⟩ := okd CC.2.2.2.2.2.2.2.2.2 hC rfl
  obtain ⟨g0, g1, g2, g3⟩ := cOk_spec ho
  subst h0
  obtain ⟨host, hl⟩ := hl
  have cb := cn_of (args := args) (mc := mc) (ms := ms) (j1 := j1) (j2 := j2) hS hM.1 hl g0
  rw [hM.2.2.2] at cb
  refine a_end CC hS hL hF h1 h2 g1 g2 hh (vx_runIN (Ts := gT) (As := As.map (mv G)) (b := ad G q) ⟨CC.1, CC.2.1, CC.2.2.2.2.1, CC.2.2.2.2.2.1, gT_ok hS⟩ (hs l G CC.2.2.2.2.2.2.2.1) ⟨cb, hM.2.2.1, gT_ok hS _ (inT_gT hM.2.1)⟩ ⟨PcM.blind, pc_of (As := .ref q :: As) hS hR hF⟩ rfl (by simpa using hn) hL.1 (by simp [mv]) (lv_room (by rw [cat_map]; exact g3)) hd ⟨by show cells + j1 ≤ mc; omega, by show slots + j2 ≤ ms; omega⟩) kr kx
/-- a static method with handlers of its own, which never throws -/
theorem a_callW {idx : Nat} (hC : look C pc = some (.invokestatic idx, np, tgt, w)) (hl : LK C.1.cls idx C') (hM : MOw C' n) (hs : Sp S C' d' j1 j2 As h Q' X') (hn : As.length = n) (h0 : st0 = As.reverse ++ st) (ho : cOk d d' j1 j2 k1 k2 st = true) (hh : C.2.2.2.2.1 = [])
    (kr : ∀ v h', Q' v h' → AW S C d Q X (k1 - j1) (k2 - j2) np ls (v.toList ++ st) h') (kx : ∀ E h', X' E h' → X E h') : AW S C d Q X k1 k2 pc ls st0 h := by
  intro p l e s m args below meth c H la locs cells slots mc ms G CC hS hL hR hF h1 h2
  obtain ⟨hd, rfl, -⟩ := okd CC.2.2.2.2.2.2.2.2.2 hC rfl
  obtain ⟨g0, g1, g2, g3⟩ := cOk_spec ho
  subst h0
  have hw : ∀ w ∈ [mW C'], inT w := fun w hw => by
    rw [mW_codeW hM.1, List.mem_singleton] at hw
    subst hw
    exact hM.2.1
  have hm := hM.2.2.2.2.1
  have cw := vx_cwSW (R := rmD d mc ms) (s := s) (args := args) (own := C.1.cls) (index := idx) (hh := C'.2.2.2.2.1) (rm := rmD d' j1 j2) (mc := j1) (ms := j2) (ws := [mW C']) (ws' := []) (bytes := C'.2.1) (maxL := C'.2.2.1) (ret := C'.2.2.2.1) (y := C'.1) (Ts := gT) n (gT_ok hS) (good_gT (fun w hw' => by
      unfold va_wsS at hw'
      rcases List.mem_append.mp hw' with hw' | hw'
      · simp only [List.mem_cons, List.not_mem_nil, or_false] at hw'
        rcases hw' with rfl | rfl | rfl
        · exact hl
        · exact hM.2.2.2.2.2
        · exact hM.2.2.1
      · exact hw w hw')) (by rw [mW_codeW hM.1]) rfl rfl hM.2.2.2.1 ⟨by show d' + 998 + 1 ≤ d + 998; omega, by show 8 + (C'.2.2.1 + 11) + 80 * d' ≤ 80 * d; omega⟩
  refine a_end CC hS hL hF h1 h2 g1 g2 hh (vx_runSX (Ts := gT) (As := As.map (mv G)) ⟨CC.1, CC.2.1, CC.2.2.2.2.1, CC.2.2.2.2.2.1, gT_ok hS⟩ (hs l G CC.2.2.2.2.2.2.2.1) cw ⟨PcM.blind, pc_of hS hR hF⟩ rfl (by simpa using hn) hL.1 (by simp) (lv_room (by rw [cat_map]; exact g3)) hd ⟨by show cells + j1 ≤ mc; omega, by show slots + j2 ≤ ms; omega⟩) kr kx
end A9
end
section
/-! ===== the rules of AW: making, constants, the library, throwing ===== -/
def upK (K : Nat → Nat × Nat) (p : Nat) (v : Nat × Nat) : Nat → Nat × Nat := fun q => if q = p then v else K q
/-- 'new' of a class of places -/
def LN (own : String) (idx ci N : Nat) : Prop := ∃ r, aC[ci]? = some r ∧ aOk r ∧ r.1.2.2 = N ∧ inT (.classLink own idx r.1.1) ∧ inT (.instantiable r.1.1 r.1.2.2) ∧ inT (.initialized r.1.1) ∧ ∀ k, k < N → (isIntTy (r.2 k) || isRefTy (r.2 k)) = true
theorem Rep.push {G : aG} {K : Nat → Nat × Nat} {I : Nat → Nat → Int32} {L : Nat → Nat → Int64} {R : Nat → Nat → Nat} {t : Nat} {v : Nat × Nat} {H H' : Heap} (hR : Rep G (K, I, L, R, t) H) (ht : 200 ≤ t) (hz : H'.size = H.size + 1) (ho : ∀ q, q < H.size → H'[q]? = H[q]?) (hc : ad G t = H.size → cellA G (upK K t v, I, L, R, t + 1) H' t) : Rep G (upK K t v, I, L, R, t + 1) H' ∧ ad G t = H.size := by
  obtain ⟨h1, h2, h3, h4⟩ := hR
  have e : ad G t = H.size := by rw [ad_dyn ht]; exact (h3 ht).symm
  refine ⟨⟨fun q => ?_, fun q hq => ?_, fun z => ?_, by rw [hz]; exact Nat.le_succ_of_le h4⟩, e⟩
  · by_cases hq : q = t
    · subst hq
      exact hc e
    · have h5 := h1 q
      unfold cellA at h5 ⊢
      dsimp only at h5 ⊢
      rw [show upK K t v q = K q by simp [upK, hq]]
      rcases hk : K q with ⟨a, b⟩
      rw [hk] at h5
      rcases a with _ | _ | a
      · trivial
      · obtain ⟨r, r1, cell, r2, r3⟩ := h5
        exact ⟨r, r1, cell, (ho _ (Array.getElem?_eq_some_iff.mp r2).1).trans r2, r3⟩
      · have h6 : H[ad G q]? = some (arrV (G.2.1 (a + 2)) b (fun j => ev G I L R (a + 2) q j)) := h5
        exact (ho _ (Array.getElem?_eq_some_iff.mp h6).1).trans h6
  · by_cases hqt : q = t
    · rw [hqt]; exact ht
    · exact h2 q (by simpa [upK, hqt] using hq)
  · show H'.size = _
    rw [hz, h3 ht]
    show G.2.2.1 + (t - 200) + 1 = G.2.2.1 + (t + 1 - 200)
    omega
theorem fv_zero {G : aG} {I : Nat → Nat → Int32} {R : Nat → Nat → Nat} {p k : Nat} {ty : FieldType} (h : (isIntTy ty || isRefTy ty) = true) (hI : I p k = 0) (hR : R p k = 0) : fv G I R p ty k = defaultValue ty := by
  cases ty <;> first | (cases h; done) | simp [fv, hI, hR, defaultValue, rv, mv]
def atyTag : ArrayType → Nat
  | .int => 2
  | .byte => 3
  | .long => 4
  | _ => 9
theorem aty_cases {aty : ArrayType} {tg : Nat} (h : atyTag aty = tg + 2) (h3 : tg < 3) : (aty = .int ∧ tg = 0) ∨ (aty = .byte ∧ tg = 1) ∨ (aty = .long ∧ tg = 2) := by
  cases aty <;> simp only [atyTag] at h <;> first | (exact absurd h (by omega)) | exact Or.inl ⟨rfl, by omega⟩ | exact Or.inr (Or.inl ⟨rfl, by omega⟩) | exact Or.inr (Or.inr ⟨rfl, by omega⟩)
section B1
variable {S : aS} {C C' : aM} {d d' : Nat} {Q Q' : Option Value → aH → Prop} {X X' : String → aH → Prop} {k1 k2 j1 j2 pc np tgt n : Nat} {w : Int32} {ls ls' : List (Option Value)} {st st' st0 : List Value} {h : aH} {ins : Instr} {As : List Value}
variable {K : Nat → Nat × Nat} {I : Nat → Nat → Int32} {L : Nat → Nat → Int64} {R : Nat → Nat → Nat} {t : Nat}
theorem a_new {idx ci N : Nat} (hC : look C pc = some (.new idx, np, tgt, w)) (hl : LN C.1.cls idx ci N) (ht : Nat.ble 200 t = true) (h1 : Nat.ble 1 k1 = true) (h2 : Nat.ble N k2 = true) (hI : ∀ k, I t k = 0) (hR0 : ∀ k, R t k = 0) (kk : AW S C d Q X (k1 - 1) (k2 - N) np ls (.ref t :: st) (upK K t (1, ci), I, L, R, t + 1)) : AW S C d Q X k1 k2 pc ls st (K, I, L, R, t) := by
  intro p l e s m args below meth c H la locs cells slots mc ms G CC hS hL hR hF g1 g2
  obtain ⟨hd, rfl, -⟩ := okd CC.2.2.2.2.2.2.2.2.2 hC rfl
  have ht := Nat.le_of_ble_eq_true ht
  have h1 := Nat.le_of_ble_eq_true h1
  have h2 := Nat.le_of_ble_eq_true h2
  obtain ⟨r, hr, hok, rfl, w1, w2, w3, hty⟩ := hl
  have hKn := hS.1 ci r hr
  have tk : ∀ x, inT x → x.before args s = true := fun x hx => gT_ok hS _ (inT_gT hx)
  have hts : ∀ w ∈ u_ws r.1.1 r.1.2.1 r.1.2.2, w.before args s = true := fun w hw => tk w (hok.1 w hw)
  refine W.newcK CC.1 CC.2.1 CC.2.2.2.2.2.1 (tk _ w1) (tk _ w2) (tk _ w3) rfl hd (by show cells + 1 ≤ mc; omega) (by show slots + r.1.2.2 ≤ ms; omega) hKn.2.1 rfl fun H1 kC hkC e1 z1 o1 => ?_
  obtain ⟨hR', ea⟩ := Rep.push (v := (1, ci)) (H' := H1) hR ht z1 o1 (fun ea => by
    unfold cellA
    dsimp only
    rw [show upK K t (1, ci) t = (1, ci) by simp [upK]]
    obtain ⟨cell, c1, c2, c3, c4⟩ := u_born (o := H.size) r.2 hts (fun w hw => hw) hKn hkC e1 hok.2.2
    refine ⟨r, hr, cell, by rw [ea]; exact c1, c2, c3, fun k hk => ?_⟩
    rw [c4 k hk]
    exact congrArg some (fv_zero (hty k hk) (hI k) (hR0 k)).symm)
  rw [← ea]
  exact kk p l e s m args below meth c H1 la locs (cells + 1) (slots + r.1.2.2) mc ms G CC hS hL hR' ⟨Nat.le_trans hF.1 (by omega), fun q q1 q2 => (o1 q (Nat.lt_of_lt_of_le q1 hF.1)).trans (hF.2.1 q q1 q2), hF.2.2⟩ (by omega) (by omega)
theorem a_newarr {aty : ArrayType} {x : Int32} {N tg : Nat} (hC : look C pc = some (.newarray aty, np, tgt, w)) (ha : atyTag aty = tg + 2) (htg : Nat.blt tg 3 = true) (hw : inT (.arrayClass (newarray.typeOf aty))) (hx : ¬ x < 0) (hN : x.toNatClampNeg = N) (hN2 : Nat.ble N 60000 = true) (ht : Nat.ble 200 t = true) (h1 : Nat.ble 1 k1 = true) (h2 : Nat.ble N k2 = true) (hI : ∀ k, I t k = 0) (hL0 : ∀ k, L t k = 0) (kk : AW S C d Q X (k1 - 1) (k2 - N) np ls (.ref t :: st) (upK K t (tg + 2, N), I, L, R, t + 1)) : AW S C d Q X k1 k2 pc ls (.int x :: st) (K, I, L, R, t) := by
  intro p l e s m args below meth c H la locs cells slots mc ms G CC hS hL hR hF g1 g2
  obtain ⟨hd, rfl, -⟩ := okd CC.2.2.2.2.2.2.2.2.2 hC rfl
  have ht := Nat.le_of_ble_eq_true ht
  have h1 := Nat.le_of_ble_eq_true h1
  have h2 := Nat.le_of_ble_eq_true h2
  have hN2 := Nat.le_of_ble_eq_true hN2
  have htg : tg < 3 := Nat.le_of_ble_eq_true htg
  have tk : ∀ x, inT x → x.before args s = true := fun x hx => gT_ok hS _ (inT_gT hx)
  have hbytes : N * componentBytes (newarray.typeOf aty) ≤ 536870912 := by
    have : componentBytes (newarray.typeOf aty) ≤ 8 := by cases aty <;> decide
    calc N * componentBytes (newarray.typeOf aty) ≤ 60000 * 8 := Nat.mul_le_mul hN2 this
      _ ≤ 536870912 := by decide
  refine va_newaK CC.1 CC.2.1 (tk _ hw) rfl hd rfl hx hN hbytes (by show cells + 1 ≤ mc; omega) (by show slots + N ≤ ms; omega) rfl fun H1 cA e1 z1 o1 hAr hNm => ?_
  have hcA : cA = G.2.1 (tg + 2) := by
    have h3 := (hS.2.1 tg (by omega)).2
    rcases aty_cases ha htg with ⟨rfl, rfl⟩ | ⟨rfl, rfl⟩ | ⟨rfl, rfl⟩ <;> exact Option.some.inj (hNm.symm.trans h3)
  subst hcA
  obtain ⟨hR', ea⟩ := Rep.push (v := (tg + 2, N)) (H' := H1) hR ht z1 o1 (fun ea => by
    unfold cellA
    dsimp only
    rw [show upK K t (tg + 2, N) t = (tg + 2, N) by simp [upK]]
    show H1[ad G t]? = some (arrV _ _ _)
    rw [ea, e1]
    congr 2
    funext j
    rcases aty_cases ha htg with ⟨rfl, rfl⟩ | ⟨rfl, rfl⟩ | ⟨rfl, rfl⟩ <;> simp [ev, hI, hL0, newarray.typeOf, defaultValue])
  rw [← ea]
  exact kk p l e s m args below meth c H1 la locs (cells + 1) (slots + N) mc ms G CC hS hL hR' ⟨Nat.le_trans hF.1 (by omega), fun q q1 q2 => (o1 q (Nat.lt_of_lt_of_le q1 hF.1)).trans (hF.2.1 q q1 q2), hF.2.2⟩ (by omega) (by omega)
/-- the one array of streets -/
theorem a_anew {idx N : Nat} {x : Int32} (hC : look C pc = some (.anewarray idx, np, tgt, w)) (hw1 : inT (.classLink C.1.cls idx RX5)) (hx : ¬ x < 0) (hN : x.toNatClampNeg = N) (hN2 : Nat.ble N 60000 = true) (ht : Nat.ble 200 t = true) (h1 : Nat.ble 1 k1 = true) (h2 : Nat.ble N k2 = true) (hR0 : ∀ k, R t k = 0) (kk : AW S C d Q X (k1 - 1) (k2 - N) np ls (.ref t :: st) (upK K t (5, N), I, L, R, t + 1)) : AW S C d Q X k1 k2 pc ls (.int x :: st) (K, I, L, R, t) := by
  intro p l e s m args below meth c H la locs cells slots mc ms G CC hS hL hR hF g1 g2
  obtain ⟨hd, rfl, -⟩ := okd CC.2.2.2.2.2.2.2.2.2 hC rfl
  have ht := Nat.le_of_ble_eq_true ht
  have h1 := Nat.le_of_ble_eq_true h1
  have h2 := Nat.le_of_ble_eq_true h2
  have hN2 := Nat.le_of_ble_eq_true hN2
  have tk : ∀ x, inT x → x.before args s = true := fun x hx => gT_ok hS _ (inT_gT hx)
  subst hN
  refine W.anew CC.1 CC.2.1 CC.2.2.2.2.2.1 (tk _ hw1) hS.2.2.2.2.2.2.2.use rfl hd rfl hx (by omega) (by show cells + 1 ≤ mc; omega) (by show slots + _ ≤ ms; omega) fun cA kA comp e0 e1 e2 e3 => ?_
  have hcA : cA = G.2.1 5 := by
    obtain ⟨kA', comp', b1, b2, b3, b4⟩ := (hS.2.1 3 (by decide)).2
    exact Option.some.inj (e0.symm.trans b4)
  subst hcA
  obtain ⟨hR', ea⟩ := Rep.push (v := (5, x.toNatClampNeg)) (H' := H.push { cls := G.2.1 5, slots := Array.replicate x.toNatClampNeg .null, vm := .none }) hR ht (by simp) (fun q hq => by rw [Array.getElem?_push, if_neg (Nat.ne_of_lt hq)]) (fun ea => by
    unfold cellA
    dsimp only
    rw [show upK K t (5, x.toNatClampNeg) t = (5, x.toNatClampNeg) by simp [upK]]
    show (H.push _)[ad G t]? = some (arrV _ _ _)
    rw [ea, arrV_new]
    simp only [Array.getElem?_push_size]
    congr 2
    funext j
    simp [ev, hR0, rv, mv])
  have K2 := kk p l e s m args below meth c _ la locs (cells + 1) (slots + x.toNatClampNeg) mc ms G CC hS hL hR' ⟨Nat.le_trans hF.1 (by simp), fun q q1 q2 => (by rw [Array.getElem?_push, if_neg (Nat.ne_of_lt (Nat.lt_of_lt_of_le q1 hF.1))]; exact hF.2.1 q q1 q2), hF.2.2⟩ (by omega) (by omega)
  simp only [List.map_cons, mv, ea] at K2
  exact K2
theorem a_objinit {idx q : Nat} (hC : look C pc = some (.invokespecial idx, np, tgt, w)) (hl : inT (.methodLink C.1.cls idx Lib.objectInit)) (hi : inT (.instanceMethod Lib.objectInit)) (hc : inT (.code Lib.objectInit ⟨#[0xb1]⟩ 1 none)) (hd1 : Nat.ble 1 d = true) (hst : Nat.ble (st.map fun v => v.category).sum 8 = true) (kk : AW S C d Q X k1 k2 np ls st h) : AW S C d Q X k1 k2 pc ls (.ref q :: st) h := by
  intro p l e s m args below meth c H la locs cells slots mc ms G CC hS hL hR hF g1 g2
  obtain ⟨hd, rfl, -⟩ := okd CC.2.2.2.2.2.2.2.2.2 hC rfl
  have hd1 := Nat.le_of_ble_eq_true hd1
  have hst := Nat.le_of_ble_eq_true hst
  have tk : ∀ x, inT x → x.before args s = true := fun x hx => gT_ok hS _ (inT_gT hx)
  refine W.objInit CC.1 CC.2.1 CC.2.2.2.2.2.1 (tk _ hl) (tk _ hi) (tk _ hc) rfl (hL.1.trans CC.2.2.2.2.1.symm) (rest := st.map (mv G)) rfl hd (by show 1 ≤ d + 998; omega) ?_ (kk p l e s m args below meth c H la locs cells slots mc ms G CC hS hL hR hF g1 g2)
  rw [cat_map]
  show 2 * 0 + _ + 12 ≤ 80 * d
  omega
/-! constants -/
theorem a_ldc {idx : Nat} {v : Int32} (hC : look C pc = some (.ldc idx, np, tgt, w)) (hl : inT (.constant C.1.cls idx v)) (kk : AW S C d Q X k1 k2 np ls (.int v :: st) h) : AW S C d Q X k1 k2 pc ls st h := by
  intro p l e s m args below meth c H la locs cells slots mc ms G CC hS hL hR hF g1 g2
  obtain ⟨hd, rfl, -⟩ := okd CC.2.2.2.2.2.2.2.2.2 hC rfl
  exact lv_ldc CC.1 CC.2.1 CC.2.2.2.2.2.1 (gT_ok hS _ (inT_gT hl)) hd (kk p l e s m args below meth c H la locs cells slots mc ms G CC hS hL hR hF g1 g2)
theorem a_ldcw {idx : Nat} {v : Int32} (hC : look C pc = some (.ldc_w idx, np, tgt, w)) (hl : inT (.constant C.1.cls idx v)) (kk : AW S C d Q X k1 k2 np ls (.int v :: st) h) : AW S C d Q X k1 k2 pc ls st h := by
  intro p l e s m args below meth c H la locs cells slots mc ms G CC hS hL hR hF g1 g2
  obtain ⟨hd, rfl, -⟩ := okd CC.2.2.2.2.2.2.2.2.2 hC rfl
  exact lv_ldcw CC.1 CC.2.1 CC.2.2.2.2.2.1 (gT_ok hS _ (inT_gT hl)) hd (kk p l e s m args below meth c H la locs cells slots mc ms G CC hS hL hR hF g1 g2)
theorem a_ldc2 {idx : Nat} {v : Int64} (hC : look C pc = some (.ldc2_w idx, np, tgt, w)) (hl : inT (.constantLong C.1.cls idx v)) (kk : AW S C d Q X k1 k2 np ls (.long v :: st) h) : AW S C d Q X k1 k2 pc ls st h := by
  intro p l e s m args below meth c H la locs cells slots mc ms G CC hS hL hR hF g1 g2
  obtain ⟨hd, rfl, -⟩ := okd CC.2.2.2.2.2.2.2.2.2 hC rfl
  exact lv_ldc2 CC.1 CC.2.1 CC.2.2.2.2.2.1 (gT_ok hS _ (inT_gT hl)) hd (kk p l e s m args below meth c H la locs cells slots mc ms G CC hS hL hR hF g1 g2)
theorem a_ldcs {idx q : Nat} {tx : String} (hC : look C pc = some (.ldc idx, np, tgt, w)) (hl : (C.1.cls, idx, tx, q) ∈ S.2.2.2.2.1) (kk : AW S C d Q X k1 k2 np ls (.ref q :: st) h) : AW S C d Q X k1 k2 pc ls st h := by
  intro p l e s m args below meth c H la locs cells slots mc ms G CC hS hL hR hF g1 g2
  obtain ⟨hd, rfl, -⟩ := okd CC.2.2.2.2.2.2.2.2.2 hC rfl
  have h5 : vk_R C.1.cls idx tx (ad G q) s := hS.2.2.2.2.1 (C.1.cls, idx, tx, q) hl
  exact va_ldcS (rest := st.map (mv G)) CC.1 CC.2.1 CC.2.2.2.2.2.1 h5 hd (kk p l e s m args below meth c H la locs cells slots mc ms G CC hS hL hR hF g1 g2)
theorem a_gets {idx : Nat} {cn f dd : String} {v : Value} (hC : look C pc = some (.getstatic idx, np, tgt, w)) (hl : inT (.fieldLink C.1.cls idx cn f dd)) (hs : (cn, f, dd, v) ∈ S.1) (kk : AW S C d Q X k1 k2 np ls (v :: st) h) : AW S C d Q X k1 k2 pc ls st h := by
  intro p l e s m args below meth c H la locs cells slots mc ms G CC hS hL hR hF g1 g2
  obtain ⟨hd, rfl, -⟩ := okd CC.2.2.2.2.2.2.2.2.2 hC rfl
  exact va_gets CC.1 CC.2.1 (hS.2.2.2.1.2.1 _ hs) hF CC.2.2.2.2.2.1 (gT_ok hS _ (inT_gT hl)) (fun _ z => z) hd (kk p l e s m args below meth c H la locs cells slots mc ms G CC hS hL hR hF g1 g2)
/-- a constant object's field -/
theorem a_getc {idx q : Nat} {o f dd : String} {v : Value} (hC : look C pc = some (.getfield idx, np, tgt, w)) (hl : inT (.fieldLink C.1.cls idx o f dd)) (hs : (q, o, f, dd, v) ∈ S.2.2.1) (kk : AW S C d Q X k1 k2 np ls (v :: st) h) : AW S C d Q X k1 k2 pc ls (.ref q :: st) h := by
  intro p l e s m args below meth c H la locs cells slots mc ms G CC hS hL hR hF g1 g2
  obtain ⟨hd, rfl, -⟩ := okd CC.2.2.2.2.2.2.2.2.2 hC rfl
  obtain ⟨cf, k, i, fd, cell, r1, r2, r3, r4, r5, r6⟩ := hS.2.2.2.1.2.2.2.1 _ hs
  have hq : H[ad G q]? = some cell := by
    rw [hF.2.1 _ (Array.getElem?_eq_some_iff.mp r3).1 r6]
    exact r3
  exact W.getf CC.1 CC.2.1 CC.2.2.2.2.2.1 (gT_ok hS _ (inT_gT hl)) r1 r2 hq r4 r5 rfl rfl hd (kk p l e s m args below meth c H la locs cells slots mc ms G CC hS hL hR hF g1 g2)
/-- a constant array -/
theorem a_lenc {q N : Nat} {ty : FieldType} {f : Nat → Value} (hC : look C pc = some (.arraylength, np, tgt, w)) (hs : (q, ty, N, f) ∈ S.2.2.2.1) {x : Int32} (hx : Int32.ofNat N = x) (kk : AW S C d Q X k1 k2 np ls (.int x :: st) h) : AW S C d Q X k1 k2 pc ls (.ref q :: st) h := by
  intro p l e s m args below meth c H la locs cells slots mc ms G CC hS hL hR hF g1 g2
  obtain ⟨hd, rfl, -⟩ := okd CC.2.2.2.2.2.2.2.2.2 hC rfl
  obtain ⟨cell, r1, r2, r3, r4, r5, r6, r7⟩ := hS.2.2.2.1.2.2.2.2 _ hs
  have hq : H[ad G q]? = some cell := by
    rw [hF.2.1 _ (Array.getElem?_eq_some_iff.mp r1).1 r7]
    exact r1
  exact W.alen CC.1 CC.2.1 hq r2 (r5.trans hx) rfl rfl hd (kk p l e s m args below meth c H la locs cells slots mc ms G CC hS hL hR hF g1 g2)
theorem a_aaldc {q N : Nat} {ty : FieldType} {f : Nat → Value} {i : Int32} (hC : look C pc = some (.aaload, np, tgt, w)) (hs : (q, ty, N, f) ∈ S.2.2.2.1) (hty : ty.isReference = true) (hi : inI i N) (kk : AW S C d Q X k1 k2 np ls (f i.toNatClampNeg :: st) h) : AW S C d Q X k1 k2 pc ls (.int i :: .ref q :: st) h := by
  intro p l e s m args below meth c H la locs cells slots mc ms G CC hS hL hR hF g1 g2
  obtain ⟨hd, rfl, -⟩ := okd CC.2.2.2.2.2.2.2.2.2 hC rfl
  obtain ⟨cell, r1, r2, r3, r4, r5, r6, r7⟩ := hS.2.2.2.1.2.2.2.2 _ hs
  have hq : H[ad G q]? = some cell := by
    rw [hF.2.1 _ (Array.getElem?_eq_some_iff.mp r1).1 r7]
    exact r1
  exact W.aald CC.1 CC.2.1 hq r2 hty r3 (inI_not ⟨hi.1, Nat.lt_of_lt_of_le hi.2 r4⟩) (r6 _ hi.2) rfl rfl hd (kk p l e s m args below meth c H la locs cells slots mc ms G CC hS hL hR hF g1 g2)
theorem a_baldc {q N : Nat} {f : Nat → Value} {i : Int32} (hC : look C pc = some (.baload, np, tgt, w)) (hs : (q, .byte, N, f) ∈ S.2.2.2.1) (hi : inI i N) (kk : AW S C d Q X k1 k2 np ls (f i.toNatClampNeg :: st) h) : AW S C d Q X k1 k2 pc ls (.int i :: .ref q :: st) h := by
  intro p l e s m args below meth c H la locs cells slots mc ms G CC hS hL hR hF g1 g2
  obtain ⟨hd, rfl, -⟩ := okd CC.2.2.2.2.2.2.2.2.2 hC rfl
  obtain ⟨cell, r1, r2, r3, r4, r5, r6, r7⟩ := hS.2.2.2.1.2.2.2.2 _ hs
  have hq : H[ad G q]? = some cell := by
    rw [hF.2.1 _ (Array.getElem?_eq_some_iff.mp r1).1 r7]
    exact r1
  exact W.bald CC.1 CC.2.1 hq r2 r3 (inI_not ⟨hi.1, Nat.lt_of_lt_of_le hi.2 r4⟩) (r6 _ hi.2) rfl rfl hd (kk p l e s m args below meth c H la locs cells slots mc ms G CC hS hL hR hF g1 g2)
/-! the library -/
def mOk (y : MethodName) (b : ByteArray) (n : Nat) : Prop := inT (.static y) ∧ inT (.initialized "java/lang/Math") ∧ inT (.code y b n (some .int))
theorem a_min {idx : Nat} {x y : Int32} (hC : look C pc = some (.invokestatic idx, np, tgt, w)) (hl : inT (.methodLink C.1.cls idx Lib.Math.min.name)) (hm : mOk Lib.Math.min.name Lib.Math.min.code 2) (hd1 : Nat.ble 1 d = true) (hst : Nat.ble (st.map fun v => v.category).sum 8 = true) (kk : AW S C d Q X k1 k2 np ls (.int (if y < x then y else x) :: st) h) : AW S C d Q X k1 k2 pc ls (.int y :: .int x :: st) h := by
  intro p l e s m args below meth c H la locs cells slots mc ms G CC hS hL hR hF g1 g2
  obtain ⟨hd, rfl, -⟩ := okd CC.2.2.2.2.2.2.2.2.2 hC rfl
  have hd1 := Nat.le_of_ble_eq_true hd1
  have hst := Nat.le_of_ble_eq_true hst
  have tk : ∀ x, inT x → x.before args s = true := fun x hx => gT_ok hS _ (inT_gT hx)
  refine va_mmin CC.1 CC.2.1 (CC.2.2.2.2.1.trans hL.1.symm) CC.2.2.2.2.2.1 (tk _ hl) (tk _ hm.1) (tk _ hm.2.1) (tk _ hm.2.2) (by show 1 ≤ d + 998; omega) ?_ (by show cells ≤ mc; omega) (by show slots ≤ ms; omega) hd (kk p l e s m args below meth c H la locs cells slots mc ms G CC hS hL hR hF g1 g2)
  rw [cat_map]
  show _ + 13 ≤ 80 * d
  omega
theorem a_max {idx : Nat} {x y : Int32} (hC : look C pc = some (.invokestatic idx, np, tgt, w)) (hl : inT (.methodLink C.1.cls idx Lib.Math.max.name)) (hm : mOk Lib.Math.max.name Lib.Math.max.code 2) (hd1 : Nat.ble 1 d = true) (hst : Nat.ble (st.map fun v => v.category).sum 8 = true) (kk : AW S C d Q X k1 k2 np ls (.int (if x < y then y else x) :: st) h) : AW S C d Q X k1 k2 pc ls (.int y :: .int x :: st) h := by
  intro p l e s m args below meth c H la locs cells slots mc ms G CC hS hL hR hF g1 g2
  obtain ⟨hd, rfl, -⟩ := okd CC.2.2.2.2.2.2.2.2.2 hC rfl
  have hd1 := Nat.le_of_ble_eq_true hd1
  have hst := Nat.le_of_ble_eq_true hst
  have tk : ∀ x, inT x → x.before args s = true := fun x hx => gT_ok hS _ (inT_gT hx)
  refine va_mmax CC.1 CC.2.1 (CC.2.2.2.2.1.trans hL.1.symm) CC.2.2.2.2.2.1 (tk _ hl) (tk _ hm.1) (tk _ hm.2.1) (tk _ hm.2.2) (by show 1 ≤ d + 998; omega) ?_ (by show cells ≤ mc; omega) (by show slots ≤ ms; omega) hd (kk p l e s m args below meth c H la locs cells slots mc ms G CC hS hL hR hF g1 g2)
  rw [cat_map]
  show _ + 13 ≤ 80 * d
  omega
theorem a_abs {idx : Nat} {x : Int32} (hC : look C pc = some (.invokestatic idx, np, tgt, w)) (hl : inT (.methodLink C.1.cls idx Lib.Math.abs.name)) (hm : mOk Lib.Math.abs.name Lib.Math.abs.code 1) (hd1 : Nat.ble 1 d = true) (hst : Nat.ble (st.map fun v => v.category).sum 8 = true) (kk : AW S C d Q X k1 k2 np ls (.int (if 0 ≤ x then x else 0 - x) :: st) h) : AW S C d Q X k1 k2 pc ls (.int x :: st) h := by
  intro p l e s m args below meth c H la locs cells slots mc ms G CC hS hL hR hF g1 g2
  obtain ⟨hd, rfl, -⟩ := okd CC.2.2.2.2.2.2.2.2.2 hC rfl
  have hd1 := Nat.le_of_ble_eq_true hd1
  have hst := Nat.le_of_ble_eq_true hst
  have tk : ∀ x, inT x → x.before args s = true := fun x hx => gT_ok hS _ (inT_gT hx)
  refine va_mabs CC.1 CC.2.1 (CC.2.2.2.2.1.trans hL.1.symm) CC.2.2.2.2.2.1 (tk _ hl) (tk _ hm.1) (tk _ hm.2.1) (tk _ hm.2.2) (by show 1 ≤ d + 998; omega) ?_ (by show cells ≤ mc; omega) (by show slots ≤ ms; omega) hd (kk p l e s m args below meth c H la locs cells slots mc ms G CC hS hL hR hF g1 g2)
  rw [cat_map]
  show _ + 13 ≤ 80 * d
  omega
def upr {α : Type} (f : Nat → α) (p : Nat) (r : α) : Nat → α := fun q => if q = p then r else f q
/-- System.arraycopy of rows of ints -/
theorem a_copy {idx q q' n0 n1 : Nat} {sp dp n : Int32} (hC : look C pc = some (.invokestatic idx, np, tgt, w)) (hl : inT (.methodLink C.1.cls idx arraycopyName)) (hm : inT (.native arraycopyName) ∧ inT (.static arraycopyName) ∧ inT (.initialized "java/lang/System")) (hK0 : K q = (2, n0)) (hK1 : K q' = (2, n1)) (h1 : ¬ sp < 0) (h2 : ¬ dp < 0) (h3 : ¬ n < 0) (h4 : sp.toNatClampNeg + n.toNatClampNeg ≤ n0) (h5 : dp.toNatClampNeg + n.toNatClampNeg ≤ n1) (hd1 : Nat.ble 1 d = true) (hst : Nat.ble (st.map fun v => v.category).sum 8 = true)
    (kk : AW S C d Q X k1 k2 np ls st (K, upr I q' (va_cpy (I q) (I q') sp.toNatClampNeg dp.toNatClampNeg n.toNatClampNeg), L, R, t)) : AW S C d Q X k1 k2 pc ls (.int n :: .int dp :: .ref q' :: .int sp :: .ref q :: st) (K, I, L, R, t) := by
  intro p l e s m args below meth c H la locs cells slots mc ms G CC hS hL hR hF g1 g2
  obtain ⟨hd, rfl, -⟩ := okd CC.2.2.2.2.2.2.2.2.2 hC rfl
  have hd1 := Nat.le_of_ble_eq_true hd1
  have hst := Nat.le_of_ble_eq_true hst
  have tk : ∀ x, inT x → x.before args s = true := fun x hx => gT_ok hS _ (inT_gT hx)
  have nn : ∀ z : Int32, ¬ z < 0 → z.toInt = (z.toNatClampNeg : Int) := by
    intro z hz
    have hz0 : (0 : Int) ≤ z.toInt := by
      have := Int32.not_lt.mp hz
      simpa using Int32.le_iff_toInt_le.mp this
    show z.toInt = ((z.toInt.toNat : Nat) : Int)
    omega
  have hp : 200 ≤ q' := hR.2.1 q' (by show (K q').1 ≠ 0; rw [hK1]; simp)
  have hc0 : H[ad G q]? = some (arrV (G.2.1 2) n0 (fun j => .int (I q j))) := hR.ar (t := 0) hK0
  have hc1 : H[ad G q']? = some (arrV (G.2.1 2) n1 (fun j => .int (I q' j))) := hR.ar (t := 0) hK1
  obtain ⟨-, k0, hk0, cm0, hkk0⟩ := (hS.2.1 0 (by decide)).1 n0 (fun j => .int (I q j))
  obtain ⟨-, kk1, hkk1', cm1, hkk1⟩ := (hS.2.1 0 (by decide)).1 n1 (fun j => .int (I q' j))
  intro T hT Y
  obtain ⟨vm', X', step⟩ := Y.arraycopy CC.1 CC.2.2.2.2.2.1 (tk _ hl) (tk _ hm.1) (tk _ hm.2.1) (tk _ hm.2.2) (src := ad G q) (dst := ad G q') (cs := arrV (G.2.1 2) n0 (fun j => .int (I q j))) (cd := arrV (G.2.1 2) n1 (fun j => .int (I q' j))) (srcPos := sp) (destPos := dp) (n := n) (by rw [hT]; exact hc0) (by rw [hT]; exact hc1)
    (arrV_ks _ _ _) (arrV_ks _ _ _) (arrV_kn _ _ _) (arrV_kn _ _ _) hk0 hkk1' hkk0 hkk1 (by simp [tagTy, refKind]) h1 h2 h3
    (by rw [nn sp h1, nn n h3, arrV_size]; omega)
    (by rw [nn dp h2, nn n h3, arrV_size]; omega)
    (fun vm₁ _ i hi => by
      have e : (arrV (G.2.1 2) n0 (fun j => Value.int (I q j))).slots.getD (sp.toNatClampNeg + i) .null = .int (I q (sp.toNatClampNeg + i)) := by
        rw [Array.getD_eq_getD_getElem?, arrV_read _ _ (by omega)]
        rfl
      refine ⟨?_, ?_⟩
      · rw [e]
        rfl
      · rw [e]
        exact trivial)
    (g := F0 m pc la ((Value.int n :: .int dp :: .ref q' :: .int sp :: .ref q :: st).map (mv G))) rfl (by show la.size = _; rw [hL.1, CC.2.2.2.2.1]) (rest := st.map (mv G)) rfl (by rw [CC.2.1]; exact hd) (by show 1 ≤ d + 998; omega) (by
      rw [cat_map]
      show 2 * 0 + _ + (nativeFrameWords "java/lang/System" "arraycopy" 5 + 11) ≤ 80 * d
      have : nativeFrameWords "java/lang/System" "arraycopy" 5 ≤ 40 := by decide +kernel
      omega)
  have e1 : copied (arrV (G.2.1 2) n0 (fun j => Value.int (I q j))) (arrV (G.2.1 2) n1 (fun j => Value.int (I q' j))) sp dp n = arrV (G.2.1 2) n1 (fun j => .int (va_cpy (I q) (I q') sp.toNatClampNeg dp.toNatClampNeg n.toNatClampNeg j)) := va_copied (fun z => .int z) (G.2.1 2) (G.2.1 2) (I q) (I q') h4
  rw [e1] at X' step
  have hl2 : ad G q' < H.size := (Array.getElem?_eq_some_iff.mp hc1).1
  obtain ⟨cz, hcz⟩ : ∃ z, z = arrV (G.2.1 2) n1 (fun j => Value.int (va_cpy (I q) (I q') sp.toNatClampNeg dp.toNatClampNeg n.toNatClampNeg j)) := ⟨_, rfl⟩
  rw [← hcz] at X' step
  have hheap : ((T.setVm vm').setCell (ad G q') cz).heap = H.setIfInBounds (ad G q') cz := by rw [← hT]; rfl
  have oq : ∀ z : Nat, z ≠ ad G q' → (H.setIfInBounds (ad G q') cz)[z]? = H[z]? := fun z hz => by simp [Array.getElem?_setIfInBounds, Ne.symm hz]
  have self : (H.setIfInBounds (ad G q') cz)[ad G q']? = some cz := by simp [Array.getElem?_setIfInBounds, hl2]
  have hR' : Rep G (K, upr I q' (va_cpy (I q) (I q') sp.toNatClampNeg dp.toNatClampNeg n.toNatClampNeg), L, R, t) (H.setIfInBounds (ad G q') cz) := by
    refine Rep.set hR hp (fun z hz => by simp [upr, hz]) (fun _ _ => rfl) (fun _ _ => rfl) (by simp) oq ?_
    unfold cellA
    dsimp only
    rw [hK1]
    show (H.setIfInBounds (ad G q') cz)[ad G q']? = some (arrV _ _ _)
    rw [self, hcz]
    congr 2
    funext j
    simp [ev, upr]
  obtain ⟨t2, a1, b1⟩ := kk p l e s m args below meth c _ la _ cells slots mc ms G CC hS hL hR' ⟨by simp; exact hF.1, fun z z1 z2 => by
      rw [oq z (fun e => z2 (by rw [e]; exact aA_ad hp))]
      exact hF.2.1 z z1 z2, fun z hz => by
      rcases List.mem_append.mp hz with hz | hz
      · exact hF.2.2 z hz
      · obtain ⟨y, -, hy⟩ := List.mem_map.mp hz
        rw [← hy]
        exact aA_ad hp⟩ g1 g2 _ hheap X'
  exact ⟨t2, step t2 a1, b1⟩
/-! throwing -/
/-- 'throw new E()' of class own: its words -/
def LT (own : String) (ik ic : Nat) (E : String) (names : List String) : Prop := Bundle.fit E = true ∧ (∀ n ∈ names, Bundle.fit n = true) ∧ inT (.classLink own ik E) ∧ inT (.initialized E) ∧ (∀ w ∈ vx_at0 own ic E names, inX w) ∧ names.length ≤ 5
theorem a_throw {ik ic np1 np2 np3 : Nat} {w1 w2 w3 : Int32} {t0 t1 t2 t3 : Nat} {E : String} {names : List String} (h0 : look C pc = some (.new ik, np, t0, w)) (h3 : look C np = some (.dup, np1, t1, w1)) (h4 : look C np1 = some (.invokespecial ic, np2, t2, w2)) (h7 : look C np2 = some (.athrow, np3, t3, w3)) (hl : LT C.1.cls ik ic E names) (hh : C.2.2.2.2.1 = []) (hd10 : Nat.ble 10 d = true) (hst : Nat.ble (st.map fun v => v.category).sum 8 = true) (hk1 : Nat.ble 1 k1 = true) (hk2 : Nat.ble 6 k2 = true) (hX : X E (K, I, L, R, 0)) : AW S C d Q X k1 k2 pc ls st (K, I, L, R, t) := by
  intro p l e s m args below meth c H la locs cells slots mc ms G CC hS hL hR hF g1 g2
  have hO := CC.2.2.2.2.2.2.2.2.2
  obtain ⟨d0, rfl, -⟩ := okd hO h0 rfl
  obtain ⟨d3, rfl, -⟩ := okd hO h3 rfl
  obtain ⟨d4, rfl, -⟩ := okd hO h4 rfl
  obtain ⟨d7, -, -⟩ := okd hO h7 rfl
  have hd10 := Nat.le_of_ble_eq_true hd10
  have hst := Nat.le_of_ble_eq_true hst
  have hk1 := Nat.le_of_ble_eq_true hk1
  have hk2 := Nat.le_of_ble_eq_true hk2
  have tk : ∀ x, inT x → x.before args s = true := fun x hx => gT_ok hS _ (inT_gT hx)
  obtain ⟨l1, l2, l3, l4, l5, l6⟩ := hl
  refine vx_throw0 CC.1 CC.2.1 CC.2.2.2.2.2.2.2.1 CC.2.2.2.2.2.1 l1 l2 (tk _ l3) (tk _ l4) (fun w hw => hS.2.2.1 w (l5 w hw).1 (l5 w hw).2 args) (fun w hw => ?_) hS.2.2.2.1.1.1 hS.2.2.2.1.1.2 hF (hL.1.trans CC.2.2.2.2.1.symm) d0 d3 d4 d7 (fun x hx => by rw [CC.2.2.2.2.2.2.2.2.1, hh] at hx; cases hx) (by show _ < d + 998; omega) (by rw [cat_map]; show _ ≤ 80 * d; omega) (by show cells + 1 ≤ mc; omega) (by show slots + 6 ≤ ms; omega) CC.2.2.2.1 (fun t' hA hz ho => ?_) hF.2.2 (by omega) (by omega)
  · unfold vx_ot
    rcases List.mem_cons.mp hw with rfl | hw
    · rw [l3.2]; simp
    · rcases List.mem_cons.mp hw with rfl | hw
      · rw [l4.2]; simp
      · have h9 := (l5 w hw).2
        cases hg : goodWord w with
        | true => simp
        | false =>
          rw [hg] at h9
          cases w <;> first | rfl | exact absurd h9 (by simp [isNest])
  · refine ⟨_, hX, ⟨fun q => ?_, hR.2.1, fun z => absurd (show 200 ≤ 0 from z) (by decide), Nat.le_trans hR.2.2.2 hz⟩, ?_⟩
    · refine cellA_congr (t := t) rfl rfl rfl (fun hk => ?_) (hR.1 q)
      have h9 := hR.1 q
      unfold cellA at h9
      dsimp only at h9
      rcases hkq : K q with ⟨a, b⟩
      rw [hkq] at h9 hk
      rcases a with _ | _ | a
      · exact absurd rfl hk
      · obtain ⟨r, r1, cell, r2, r3⟩ := h9
        exact ho _ (Array.getElem?_eq_some_iff.mp r2).1
      · have h6 : H[ad G q]? = some (arrV (G.2.1 (a + 2)) b (fun j => ev G I L R (a + 2) q j)) := h9
        exact ho _ (Array.getElem?_eq_some_iff.mp h6).1
    · exact ⟨Nat.le_trans hF.1 hz, fun q q1 q2 => (ho q (Nat.lt_of_lt_of_le q1 hF.1)).trans (hF.2.1 q q1 q2)⟩
end B1
end
section
/-! ===== the rules of AW: catching, inherited methods, switches ===== -/
section B2
variable {S : aS} {C C' : aM} {d d' : Nat} {Q Q' : Option Value → aH → Prop} {X X' : String → aH → Prop} {k1 k2 j1 j2 pc np tgt n : Nat} {w : Int32} {ls ls' : List (Option Value)} {st st' st0 : List Value} {h : aH} {ins : Instr} {As : List Value}
/-- a handler's row takes E, those ahead of it don't: their classes' names, by the pool -/
def hTake (S : aS) (C : aM) (pc : Nat) (E : String) : List (Nat × Nat × Nat × Nat) → Nat → Prop
  | [], _ => False
  | r :: rs, hpc => (r.1 ≤ pc ∧ pc < r.2.1 ∧ r.2.2.2 ≠ 0) ∧ ∃ nm, inT (.classLink C.1.cls r.2.2.2 nm) ∧ ((inX (.castable E nm) ∧ r.2.2.1 = hpc) ∨ ((E, nm) ∈ S.2.2.2.2.2 ∧ hTake S C pc E rs hpc))
theorem hTake_split {S : aS} {C : aM} {pc hpc : Nat} {E : String} {l : List (Nat × Nat × Nat × Nat)} (h : hTake S C pc E l hpc) : ∃ pre x suf nm, l = pre ++ x :: suf ∧ (x.1 ≤ pc ∧ pc < x.2.1 ∧ x.2.2.2 ≠ 0) ∧ x.2.2.1 = hpc ∧ inT (.classLink C.1.cls x.2.2.2 nm) ∧ inX (.castable E nm) ∧ ∀ z ∈ pre, z.2.2.2 ≠ 0 ∧ ∃ nm, inT (.classLink C.1.cls z.2.2.2 nm) ∧ (E, nm) ∈ S.2.2.2.2.2 := by
  induction l with
  | nil => exact False.elim h
  | cons r rs ih =>
    obtain ⟨h0, nm, h1, h2⟩ := h
    rcases h2 with ⟨h2, h3⟩ | ⟨h2, h3⟩
    · exact ⟨[], r, rs, nm, rfl, h0, h3, h1, h2, fun z hz => by cases hz⟩
    · obtain ⟨pre, x, suf, nm', e, g1, g2, g3, g4, g5⟩ := ih h3
      refine ⟨r :: pre, x, suf, nm', by rw [e]; rfl, g1, g2, g3, g4, fun z hz => ?_⟩
      rcases List.mem_cons.mp hz with rfl | hz
      · exact ⟨h0.2.2, nm, h1, h2⟩
      · exact g5 z hz
def lforget : List (Option Value) → Nat → List (Option Value)
  | [], _ => []
  | _ :: r, 0 => none :: r
  | a :: r, 1 => kill a :: lforget r 0
  | a :: r, n + 2 => a :: lforget r (n + 1)
theorem lg_lforget {ls : List (Option Value)} {i j : Nat} {x : Value} (h : lg (lforget ls i) j = some x) : j ≠ i ∧ lg ls j = some x ∧ ¬ (j + 1 = i ∧ x.category = 2) := by
  induction ls generalizing i j with
  | nil => simp [lforget, lg] at h
  | cons a r ih =>
    rcases i with _ | _ | i
    · rcases j with _ | j
      · simp [lforget, lg] at h
      · exact ⟨by omega, h, by omega⟩
    · rcases j with _ | j
      · simp only [lforget, lg] at h
        obtain ⟨h1, h2⟩ := kill_some h
        exact ⟨by omega, h1, by omega⟩
      · simp only [lforget, lg] at h
        obtain ⟨h1, h2, h3⟩ := ih h
        exact ⟨by omega, h2, by omega⟩
    · rcases j with _ | j
      · exact ⟨by omega, h, by omega⟩
      · simp only [lforget, lg] at h
        obtain ⟨h1, h2, h3⟩ := ih h
        exact ⟨by omega, h2, fun z => h3 ⟨by omega, z.2⟩⟩
/-- a method called within a handler's reach; the handler begins with the storing of what it caught -/
theorem a_callVc {idx q : Nat} (hC : look C pc = some (.invokevirtual idx, np, tgt, w)) (hl : LK C.1.cls idx C') (hM : MOv C' n) (hs : Sp S C' d' j1 j2 (.ref q :: As) h Q' X') (hn : As.length = n) (h0 : st0 = As.reverse ++ .ref q :: st) (ho : cOk d d' j1 j2 k1 k2 st = true) (hq : rcv h q C'.1.cls)
    (kr : ∀ v h', Q' v h' → AW S C d Q X (k1 - j1) (k2 - j2) np ls (v.toList ++ st) h')
    (kx : ∀ E h', X' E h' → ∃ (hpc : Nat) (ins2 : Instr) (np2 tgt2 : Nat) (w2 : Int32) (i : Nat), hTake S C pc E C.2.2.2.2.1 hpc ∧ look C hpc = some (ins2, np2, tgt2, w2) ∧ stI ins2 = some (i, 1) ∧ i < C.2.2.1 ∧ AW S C d Q X (k1 - j1) (k2 - j2) np2 (lforget ls i) [] h') : AW S C d Q X k1 k2 pc ls st0 h := by
  intro p l e s m args below meth c H la locs cells slots mc ms G CC hS hL hR hF h1 h2
  obtain ⟨hd, rfl, -⟩ := okd CC.2.2.2.2.2.2.2.2.2 hC rfl
  obtain ⟨g0, g1, g2, g3⟩ := cOk_spec ho
  subst h0
  have tk : ∀ x, inT x → x.before args s = true := fun x hx => gT_ok hS _ (inT_gT hx)
  have hr := vx_runV (R := rmD d mc ms) (p := p) (l := l) (e := e) (s := s) (m := m) (args := args) (below := below) (meth := meth) (c := c) (H := H) (locs := locs) (cells := cells) (slots := slots) (rest := st.map (mv G)) (g := F0 m pc la ((As.reverse ++ .ref q :: st).map (mv G))) (Ts := gT) (As := As.map (mv G)) (b := ad G q) ⟨CC.1, CC.2.1, CC.2.2.2.2.1, CC.2.2.2.2.2.1, gT_ok hS⟩ (hs l G CC.2.2.2.2.2.2.2.1) ⟨cb_of (mc := mc) (ms := ms) hS hM.1 hl g0, gT_ok hS _ (inT_gT hM.2.1), gT_ok hS _ (inT_gT hM.2.2)⟩ ⟨PcM.blind, rcv_of hS hR hq, pc_of (As := .ref q :: As) hS hR hF⟩ rfl (by simpa using hn) hL.1 (by simp [mv]) (lv_room (by rw [cat_map]; exact g3)) hd ⟨by show cells + j1 ≤ mc; omega, by show slots + j2 ≤ ms; omega⟩
  refine go_run hr hF (fun v h' H' locs' q1 q2 q3 => ?_) (fun E h' qe ce H' locs' q1 q2 q3 q4 q5 q6 => ?_)
  · have K := kr v h' q1 p l e s m args below meth c H' la locs' (cells + j1) (slots + j2) mc ms G CC hS hL q2 q3 (by omega) (by omega)
    have e1 : (v.toList ++ st).map (mv G) = (Option.map (mv G) v).toList ++ st.map (mv G) := by cases v <;> simp
    rw [e1] at K
    exact K
  · obtain ⟨hpc, ins2, np2, tgt2, w2, i, t1, t2, t3, t4, t5⟩ := kx E h' q1
    obtain ⟨pre, x, suf, nm, e1, e2, e3, e4, e5, e6⟩ := hTake_split t1
    have htab : c.exceptionTable.toList = tableOf pre ++ (⟨x.1, x.2.1, x.2.2.1, x.2.2.2⟩ : ExceptionTableEntry) :: tableOf suf := by
      rw [CC.2.2.2.2.2.2.2.2.1, e1]
      simp [tableOf]
    refine vx_catch CC.2.2.2.2.2.1 (tableOf pre) _ (tableOf suf) htab (fun z hz => ?_) (by simp [covers, e2.1, e2.2.1]) e2.2.2 (tk _ e4) (hS.2.2.1 _ e5.1 e5.2 args) q4 q5 q6 ?_
    · obtain ⟨y, hy, rfl⟩ := List.mem_map.mp hz
      obtain ⟨f1, nm', f2, f3⟩ := e6 y hy
      exact Or.inr ⟨f1, nm', tk _ f2, hS.2.2.2.2.2.1 _ f3⟩
    · rw [show (⟨x.1, x.2.1, x.2.2.1, x.2.2.2⟩ : ExceptionTableEntry).handlerPc = hpc from e3]
      have K : ∀ la', HL G la' C.2.2.1 (lforget ls i) → W p l e (rmD d mc ms) s m args below meth c H' locs' (cells + j1) (slots + j2) (vx_MQ below (QcM G Q) (XcM G X) args s mc ms (aA G)) (F0 m np2 la' ([].map (mv G))) := fun la' hla => t5 p l e s m args below meth c H' la' locs' (cells + j1) (slots + j2) mc ms G CC hS hla q2 q3 (by omega) (by omega)
      have hO := CC.2.2.2.2.2.2.2.2.2
      have hh := hL.has
      unfold stI at t3
      have fin : ∀ (la' : Array Slot), lv_has la' C.2.2.1 ((i, .ref qe) :: (llO G 0 ls).filter (fun q => !(q.1 == i) && !(q.1 + 1 == i && q.2.category == 2))) → HL G la' C.2.2.1 (lforget ls i) := by
        intro la' hla
        refine ⟨hla.1, hla.2.1, fun j y hj => ?_⟩
        obtain ⟨r1, r2, r3⟩ := lg_lforget hj
        refine hla.2.2 (j, mv G y) (List.mem_cons_of_mem _ (List.mem_filter.mpr ⟨llO_mem.mpr ⟨j, y, r2, by simp⟩, ?_⟩))
        simp only [Bool.and_eq_true, Bool.not_eq_true', beq_eq_false_iff_ne, ne_eq, Bool.and_eq_false_iff, mv_cat]
        refine ⟨r1, ?_⟩
        by_cases z : j + 1 = i
        · exact Or.inr fun y => r3 ⟨z, y⟩
        · exact Or.inl z
      split at t3 <;> first | (cases t3; done) | (cases t3; obtain ⟨hd2, rfl, -⟩ := okd hO t2 rfl)
      · exact lv_astore CC.1 CC.2.1 hd2 hh t4 rfl (fun la' z => K la' (fin la' z))
      · exact lv_astore_n CC.1 CC.2.1 hd2 rfl hh t4 rfl (fun la' z => K la' (fin la' z))
/-- a method found by the receiver's class: inherited, or of a class below -/
theorem a_callU {idx q : Nat} {x : MethodName} {owner cn : String} (hC : look C pc = some (.invokevirtual idx, np, tgt, w)) (hl : ∀ z ∈ [Cond.methodLink C.1.cls idx x, .sameMethod x.cls owner x.name x.desc, .selects cn x C'.1, .instanceMethod C'.1], inT z) (hdc : ∀ (G : aG) (s : State), SW S G s → va_Decl s ⟨owner, x.name, x.desc⟩) (hM : MO C' n) (hx : owner ≠ "java/lang/invoke/MethodHandle" ∧ owner ≠ "java/lang/invoke/VarHandle" ∧ (parseMethodDescriptor x.desc).map (fun d => d.parameters.length) = some n) (hs : Sp S C' d' j1 j2 (.ref q :: As) h Q' X') (hn : As.length = n) (h0 : st0 = As.reverse ++ .ref q :: st) (ho : cOk d d' j1 j2 k1 k2 st = true) (hq : rcv h q cn) (hh : C.2.2.2.2.1 = [])
    (kr : ∀ v h', Q' v h' → AW S C d Q X (k1 - j1) (k2 - j2) np ls (v.toList ++ st) h') (kx : ∀ E h', X' E h' → X E h') : AW S C d Q X k1 k2 pc ls st0 h := by
  intro p l e s m args below meth c H la locs cells slots mc ms G CC hS hL hR hF h1 h2
  obtain ⟨hd, rfl, -⟩ := okd CC.2.2.2.2.2.2.2.2.2 hC rfl
  obtain ⟨g0, g1, g2, g3⟩ := cOk_spec ho
  subst h0
  have tk : ∀ x, inT x → x.before args s = true := fun x hx => gT_ok hS _ (inT_gT hx)
  have hml := hM.2.2.2.2
  have hc : Cond.code C'.1 C'.2.1 C'.2.2.1 C'.2.2.2.1 ∈ [mW C'] := by rw [mW_code hM.1]; exact List.mem_cons_self
  have cu : va_CU (rmD d mc ms) s args C.1.cls cn owner idx x C'.1 C'.2.1 C'.2.2.1 C'.2.2.2.1 [mW C'] (rmD d' j1 j2) j1 j2 n := by
    refine ⟨⟨rfl, rfl, by show d' + 998 + 1 ≤ d + 998; omega, ?_, pay_in (gT_ok (args := args) hS) (good_gT hM.ws), hc⟩, tk _ hM.2.1, tk _ hM.2.2.1, ⟨hx.1, hx.2.1⟩, fun sig hsig => ?_, tk _ (hl _ (by simp)), tk _ (hl _ (by simp)), hdc G s hS, tk _ (hl _ (by simp)), tk _ (hl _ (by simp))⟩
    · show 8 + (C'.2.2.1 + 11) + 80 * d' ≤ 80 * d
      omega
    · have h2 := hx.2.2
      rw [hsig] at h2
      exact (Option.some.inj h2).symm
  refine a_end CC hS hL hF h1 h2 g1 g2 hh (vx_runU (Ts := gT) (As := As.map (mv G)) (b := ad G q) ⟨CC.1, CC.2.1, CC.2.2.2.2.1, CC.2.2.2.2.2.1, gT_ok hS⟩ (hs l G CC.2.2.2.2.2.2.2.1) cu ⟨PcM.blind, rcv_of hS hR hq, pc_of (As := .ref q :: As) hS hR hF⟩ rfl (by simpa using hn) hL.1 (by simp [mv]) (lv_room (by rw [cat_map]; exact g3)) hd ⟨by show cells + j1 ≤ mc; omega, by show slots + j2 ≤ ms; omega⟩) kr kx
/-- a method of a constant object -/
theorem a_callK {idx q : Nat} (hC : look C pc = some (.invokevirtual idx, np, tgt, w)) (hl : LK C.1.cls idx C') (hM : MOv C' n) (hs : Sp S C' d' j1 j2 (.ref q :: As) h Q' X') (hn : As.length = n) (h0 : st0 = As.reverse ++ .ref q :: st) (ho : cOk d d' j1 j2 k1 k2 st = true) (hq : (q, C'.1.cls) ∈ S.2.1) (hh : C.2.2.2.2.1 = [])
    (kr : ∀ v h', Q' v h' → AW S C d Q X (k1 - j1) (k2 - j2) np ls (v.toList ++ st) h') (kx : ∀ E h', X' E h' → X E h') : AW S C d Q X k1 k2 pc ls st0 h := by
  intro p l e s m args below meth c H la locs cells slots mc ms G CC hS hL hR hF h1 h2
  obtain ⟨hd, rfl, -⟩ := okd CC.2.2.2.2.2.2.2.2.2 hC rfl
  obtain ⟨g0, g1, g2, g3⟩ := cOk_spec ho
  subst h0
  obtain ⟨cell, c1, c2, c3, c4⟩ := hS.2.2.2.1.2.2.1 _ hq
  have hrc : ∃ cellB : Cell, H[ad G q]? = some cellB ∧ cellB.vm.isStatics = false ∧ s.vm.findClass C'.1.cls = some cellB.cls := by
    refine ⟨cell, ?_, c2, c3⟩
    rw [hF.2.1 _ (Array.getElem?_eq_some_iff.mp c1).1 c4]
    exact c1
  refine a_end CC hS hL hF h1 h2 g1 g2 hh (vx_runV (Ts := gT) (As := As.map (mv G)) (b := ad G q) ⟨CC.1, CC.2.1, CC.2.2.2.2.1, CC.2.2.2.2.2.1, gT_ok hS⟩ (hs l G CC.2.2.2.2.2.2.2.1) ⟨cb_of hS hM.1 hl g0, gT_ok hS _ (inT_gT hM.2.1), gT_ok hS _ (inT_gT hM.2.2)⟩ ⟨PcM.blind, hrc, pc_of (As := .ref q :: As) hS hR hF⟩ rfl (by simpa using hn) hL.1 (by simp [mv]) (lv_room (by rw [cat_map]; exact g3)) hd ⟨by show cells + j1 ≤ mc; omega, by show slots + j2 ≤ ms; omega⟩) kr kx
/-! switches: the target by a program over the number -/
def swT (pc : Nat) (dflt lo hi : Int) (offs : Array Int) (x : Int) : Option Nat := if x < lo ∨ hi < x then some ((pc : Int) + dflt).toNat else (offs[(x - lo).toNat]?).map fun o => ((pc : Int) + o).toNat
theorem a_tsw {dflt lo hi : Int} {offs : Array Int} {x : Int32} {tg : Nat} (hC : look C pc = some (.tableswitch dflt lo hi offs, np, tgt, w)) (hT : swT pc dflt lo hi offs x.toInt = some tg) (hpos : 0 ≤ (pc : Int) + dflt ∧ ∀ o ∈ offs, 0 ≤ (pc : Int) + o) (kk : AW S C d Q X k1 k2 tg ls st h) : AW S C d Q X k1 k2 pc ls (.int x :: st) h := by
  intro p l e s m args below meth c H la locs cells slots mc ms G CC hS hL hR hF h1 h2
  have hd := (CC.2.2.2.2.2.2.2.2.2 _ _ hC).2.1
  have K := kk p l e s m args below meth c H la locs cells slots mc ms G CC hS hL hR hF h1 h2
  unfold swT at hT
  by_cases hx : x.toInt < lo ∨ hi < x.toInt
  · rw [if_pos hx] at hT
    cases hT
    exact lv_tableOut CC.1 CC.2.1 hd hx (by have := hpos.1; omega) K
  · rw [if_neg hx] at hT
    cases ho : offs[(x.toInt - lo).toNat]? with
    | none => rw [ho] at hT; cases hT
    | some o =>
      rw [ho] at hT
      cases hT
      exact lv_tableIn CC.1 CC.2.1 hd (fun z => hx (Or.inl z)) (fun z => hx (Or.inr z)) ho (by have h7 := hpos.2 o (Array.mem_of_getElem? ho); show (pc : Int) + o = (((pc : Int) + o).toNat : Int); omega) K
theorem a_lsw {dflt : Int} {ps : Array (Int × Int)} {x : Int32} {tg : Nat} (hC : look C pc = some (.lookupswitch dflt ps, np, tgt, w)) (hp : (ps.toList.zip (ps.toList.drop 1)).all (fun (a, next) => a.1 < next.1) = true) (hT : (pc : Int) + Op.lookupswitch.offset ps.toList dflt x.toInt = (tg : Int)) (kk : AW S C d Q X k1 k2 tg ls st h) : AW S C d Q X k1 k2 pc ls (.int x :: st) h := by
  intro p l e s m args below meth c H la locs cells slots mc ms G CC hS hL hR hF h1 h2
  have hd := (CC.2.2.2.2.2.2.2.2.2 _ _ hC).2.1
  exact lv_lookup CC.1 CC.2.1 hd hp rfl hT (kk p l e s m args below meth c H la locs cells slots mc ms G CC hS hL hR hF h1 h2)
end B2
end
section
/-! ===== calls of methods whose end is known; loops ===== -/
def SpE (S : aS) (C : aM) (d : Nat) (args : List Value) (h : aH) (r : Option Value) (h' : aH) : Prop := Sp S C d 0 0 args h (fun v h'' => v = r ∧ h'' = h') (fun _ _ => False)
section B3
variable {S : aS} {C C' : aM} {d d' : Nat} {Q Q' : Option Value → aH → Prop} {X X' : String → aH → Prop} {k1 k2 j1 j2 pc np tgt n : Nat} {w : Int32} {ls ls' : List (Option Value)} {st st' st0 : List Value} {h h' : aH} {ins : Instr} {As : List Value} {v : Value}
theorem a_eV1 {idx : Nat} {q : Nat} (hC : look C pc = some (.invokevirtual idx, np, tgt, w)) (hl : LK C.1.cls idx C') (hM : MOv C' n) (hs : SpE S C' d' (.ref q :: As) h (some v) h') (hn : As.length = n) (h0 : st0 = As.reverse ++ .ref q :: st) (ho : cOk d d' 0 0 k1 k2 st = true) (hq : rcv h q C'.1.cls) (hh : C.2.2.2.2.1 = []) (kk : AW S C d Q X k1 k2 np ls (v :: st) h') : AW S C d Q X k1 k2 pc ls st0 h := by
  refine a_callV hC hl hM hs hn h0 ho hq hh (fun v h' hv => ?_) (fun E h' hx => False.elim hx)
  obtain ⟨rfl, rfl⟩ := hv
  exact kk
theorem a_eV0 {idx : Nat} {q : Nat} (hC : look C pc = some (.invokevirtual idx, np, tgt, w)) (hl : LK C.1.cls idx C') (hM : MOv C' n) (hs : SpE S C' d' (.ref q :: As) h none h') (hn : As.length = n) (h0 : st0 = As.reverse ++ .ref q :: st) (ho : cOk d d' 0 0 k1 k2 st = true) (hq : rcv h q C'.1.cls) (hh : C.2.2.2.2.1 = []) (kk : AW S C d Q X k1 k2 np ls st h') : AW S C d Q X k1 k2 pc ls st0 h := by
  refine a_callV hC hl hM hs hn h0 ho hq hh (fun v h' hv => ?_) (fun E h' hx => False.elim hx)
  obtain ⟨rfl, rfl⟩ := hv
  exact kk
theorem a_eN1 {idx : Nat} {q : Nat} (hC : look C pc = some (.invokevirtual idx, np, tgt, w)) (hl : LKn C.1.cls idx C') (hM : MOv C' n) (hs : SpE S C' d' (.ref q :: As) h (some v) h') (hn : As.length = n) (h0 : st0 = As.reverse ++ .ref q :: st) (ho : cOk d d' 0 0 k1 k2 st = true) (hq : rcv h q C'.1.cls) (hh : C.2.2.2.2.1 = []) (kk : AW S C d Q X k1 k2 np ls (v :: st) h') : AW S C d Q X k1 k2 pc ls st0 h := by
  refine a_callN hC hl hM hs hn h0 ho hq hh (fun v h' hv => ?_) (fun E h' hx => False.elim hx)
  obtain ⟨rfl, rfl⟩ := hv
  exact kk
theorem a_eN0 {idx : Nat} {q : Nat} (hC : look C pc = some (.invokevirtual idx, np, tgt, w)) (hl : LKn C.1.cls idx C') (hM : MOv C' n) (hs : SpE S C' d' (.ref q :: As) h none h') (hn : As.length = n) (h0 : st0 = As.reverse ++ .ref q :: st) (ho : cOk d d' 0 0 k1 k2 st = true) (hq : rcv h q C'.1.cls) (hh : C.2.2.2.2.1 = []) (kk : AW S C d Q X k1 k2 np ls st h') : AW S C d Q X k1 k2 pc ls st0 h := by
  refine a_callN hC hl hM hs hn h0 ho hq hh (fun v h' hv => ?_) (fun E h' hx => False.elim hx)
  obtain ⟨rfl, rfl⟩ := hv
  exact kk
theorem a_eS1 {idx : Nat} (hC : look C pc = some (.invokestatic idx, np, tgt, w)) (hl : LK C.1.cls idx C') (hM : MOs C' n) (hs : SpE S C' d' As h (some v) h') (hn : As.length = n) (h0 : st0 = As.reverse ++ st) (ho : cOk d d' 0 0 k1 k2 st = true) (hh : C.2.2.2.2.1 = []) (kk : AW S C d Q X k1 k2 np ls (v :: st) h') : AW S C d Q X k1 k2 pc ls st0 h := by
  refine a_callS hC hl hM hs hn h0 ho hh (fun v h' hv => ?_) (fun E h' hx => False.elim hx)
  obtain ⟨rfl, rfl⟩ := hv
  exact kk
theorem a_eS0 {idx : Nat} (hC : look C pc = some (.invokestatic idx, np, tgt, w)) (hl : LK C.1.cls idx C') (hM : MOs C' n) (hs : SpE S C' d' As h none h') (hn : As.length = n) (h0 : st0 = As.reverse ++ st) (ho : cOk d d' 0 0 k1 k2 st = true) (hh : C.2.2.2.2.1 = []) (kk : AW S C d Q X k1 k2 np ls st h') : AW S C d Q X k1 k2 pc ls st0 h := by
  refine a_callS hC hl hM hs hn h0 ho hh (fun v h' hv => ?_) (fun E h' hx => False.elim hx)
  obtain ⟨rfl, rfl⟩ := hv
  exact kk
theorem a_eSN1 {idx : Nat} (hC : look C pc = some (.invokestatic idx, np, tgt, w)) (hl : LKn C.1.cls idx C') (hM : MOs C' n) (hs : SpE S C' d' As h (some v) h') (hn : As.length = n) (h0 : st0 = As.reverse ++ st) (ho : cOk d d' 0 0 k1 k2 st = true) (hh : C.2.2.2.2.1 = []) (kk : AW S C d Q X k1 k2 np ls (v :: st) h') : AW S C d Q X k1 k2 pc ls st0 h := by
  refine a_callSN hC hl hM hs hn h0 ho hh (fun v h' hv => ?_) (fun E h' hx => False.elim hx)
  obtain ⟨rfl, rfl⟩ := hv
  exact kk
theorem a_eSN0 {idx : Nat} (hC : look C pc = some (.invokestatic idx, np, tgt, w)) (hl : LKn C.1.cls idx C') (hM : MOs C' n) (hs : SpE S C' d' As h none h') (hn : As.length = n) (h0 : st0 = As.reverse ++ st) (ho : cOk d d' 0 0 k1 k2 st = true) (hh : C.2.2.2.2.1 = []) (kk : AW S C d Q X k1 k2 np ls st h') : AW S C d Q X k1 k2 pc ls st0 h := by
  refine a_callSN hC hl hM hs hn h0 ho hh (fun v h' hv => ?_) (fun E h' hx => False.elim hx)
  obtain ⟨rfl, rfl⟩ := hv
  exact kk
theorem a_eI1 {idx : Nat} {q : Nat} (hC : look C pc = some (.invokespecial idx, np, tgt, w)) (hl : LK C.1.cls idx C') (hM : MOi C' n) (hs : SpE S C' d' (.ref q :: As) h (some v) h') (hn : As.length = n) (h0 : st0 = As.reverse ++ .ref q :: st) (ho : cOk d d' 0 0 k1 k2 st = true) (hh : C.2.2.2.2.1 = []) (kk : AW S C d Q X k1 k2 np ls (v :: st) h') : AW S C d Q X k1 k2 pc ls st0 h := by
  refine a_callI hC hl hM hs hn h0 ho hh (fun v h' hv => ?_) (fun E h' hx => False.elim hx)
  obtain ⟨rfl, rfl⟩ := hv
  exact kk
theorem a_eI0 {idx : Nat} {q : Nat} (hC : look C pc = some (.invokespecial idx, np, tgt, w)) (hl : LK C.1.cls idx C') (hM : MOi C' n) (hs : SpE S C' d' (.ref q :: As) h none h') (hn : As.length = n) (h0 : st0 = As.reverse ++ .ref q :: st) (ho : cOk d d' 0 0 k1 k2 st = true) (hh : C.2.2.2.2.1 = []) (kk : AW S C d Q X k1 k2 np ls st h') : AW S C d Q X k1 k2 pc ls st0 h := by
  refine a_callI hC hl hM hs hn h0 ho hh (fun v h' hv => ?_) (fun E h' hx => False.elim hx)
  obtain ⟨rfl, rfl⟩ := hv
  exact kk
theorem a_eIN1 {idx : Nat} {q : Nat} (hC : look C pc = some (.invokespecial idx, np, tgt, w)) (hl : LKn C.1.cls idx C') (hM : MOi C' n) (hs : SpE S C' d' (.ref q :: As) h (some v) h') (hn : As.length = n) (h0 : st0 = As.reverse ++ .ref q :: st) (ho : cOk d d' 0 0 k1 k2 st = true) (hh : C.2.2.2.2.1 = []) (kk : AW S C d Q X k1 k2 np ls (v :: st) h') : AW S C d Q X k1 k2 pc ls st0 h := by
  refine a_callIN hC hl hM hs hn h0 ho hh (fun v h' hv => ?_) (fun E h' hx => False.elim hx)
  obtain ⟨rfl, rfl⟩ := hv
  exact kk
theorem a_eIN0 {idx : Nat} {q : Nat} (hC : look C pc = some (.invokespecial idx, np, tgt, w)) (hl : LKn C.1.cls idx C') (hM : MOi C' n) (hs : SpE S C' d' (.ref q :: As) h none h') (hn : As.length = n) (h0 : st0 = As.reverse ++ .ref q :: st) (ho : cOk d d' 0 0 k1 k2 st = true) (hh : C.2.2.2.2.1 = []) (kk : AW S C d Q X k1 k2 np ls st h') : AW S C d Q X k1 k2 pc ls st0 h := by
  refine a_callIN hC hl hM hs hn h0 ho hh (fun v h' hv => ?_) (fun E h' hx => False.elim hx)
  obtain ⟨rfl, rfl⟩ := hv
  exact kk
theorem a_eK1 {idx : Nat} {q : Nat} (hC : look C pc = some (.invokevirtual idx, np, tgt, w)) (hl : LK C.1.cls idx C') (hM : MOv C' n) (hs : SpE S C' d' (.ref q :: As) h (some v) h') (hn : As.length = n) (h0 : st0 = As.reverse ++ .ref q :: st) (ho : cOk d d' 0 0 k1 k2 st = true) (hq : (q, C'.1.cls) ∈ S.2.1) (hh : C.2.2.2.2.1 = []) (kk : AW S C d Q X k1 k2 np ls (v :: st) h') : AW S C d Q X k1 k2 pc ls st0 h := by
  refine a_callK hC hl hM hs hn h0 ho hq hh (fun v h' hv => ?_) (fun E h' hx => False.elim hx)
  obtain ⟨rfl, rfl⟩ := hv
  exact kk
theorem a_eK0 {idx : Nat} {q : Nat} (hC : look C pc = some (.invokevirtual idx, np, tgt, w)) (hl : LK C.1.cls idx C') (hM : MOv C' n) (hs : SpE S C' d' (.ref q :: As) h none h') (hn : As.length = n) (h0 : st0 = As.reverse ++ .ref q :: st) (ho : cOk d d' 0 0 k1 k2 st = true) (hq : (q, C'.1.cls) ∈ S.2.1) (hh : C.2.2.2.2.1 = []) (kk : AW S C d Q X k1 k2 np ls st h') : AW S C d Q X k1 k2 pc ls st0 h := by
  refine a_callK hC hl hM hs hn h0 ho hq hh (fun v h' hv => ?_) (fun E h' hx => False.elim hx)
  obtain ⟨rfl, rfl⟩ := hv
  exact kk
/-- a counting loop -/
theorem a_for {n : Nat} (f : Nat → List (Option Value)) (g : Nat → aH) (hn : AW S C d Q X k1 k2 pc (f n) st (g n)) (hs : ∀ j, j < n → AW S C d Q X k1 k2 pc (f (j + 1)) st (g (j + 1)) → AW S C d Q X k1 k2 pc (f j) st (g j)) : AW S C d Q X k1 k2 pc (f 0) st (g 0) := by
  have key : ∀ i, i ≤ n → AW S C d Q X k1 k2 pc (f (n - i)) st (g (n - i)) := by
    intro i
    induction i with
    | zero => intro _; exact hn
    | succ i ih =>
      intro hi
      refine hs (n - (i + 1)) (by omega) ?_
      rw [show n - (i + 1) + 1 = n - i by omega]
      exact ih (by omega)
  have := key n (Nat.le_refl n)
  rw [Nat.sub_self] at this
  exact this
theorem a_eq (e1 : ls = ls') (e2 : h = h') (k : AW S C d Q X k1 k2 pc ls' st h') : AW S C d Q X k1 k2 pc ls st h := by
  rw [e1, e2]
  exact k
theorem SpE_of {args : List Value} {r : Option Value} (hO : okM C = true) (hc : args.all (fun v => v.category == 1) = true) (hn : Nat.ble args.length C.2.2.1 = true)
    (k : AW S C d (fun v h'' => v = r ∧ h'' = h') (fun _ _ => False) 0 0 0 (entL args C.2.2.1) [] h) : SpE S C d args h r h' := Sp_of hO hc hn k
theorem SpE.cast {args : List Value} {r r' : Option Value} {h'' : aH} (k : SpE S C d args h r h') (e1 : r = r') (e2 : h' = h'') : SpE S C d args h r' h'' := by
  rw [← e1, ← e2]
  exact k

/-- it throws, and this is known -/
def SpX (S : aS) (C : aM) (d : Nat) (args : List Value) (h : aH) (E : String) (h' : aH) : Prop := Sp S C d 1 6 args h (fun _ _ => False) (fun E' h'' => E' = E ∧ h'' = h')
theorem SpX_of {args : List Value} {E : String} (hO : okM C = true) (hc : args.all (fun v => v.category == 1) = true) (hn : Nat.ble args.length C.2.2.1 = true)
    (k : AW S C d (fun _ _ => False) (fun E' h'' => E' = E ∧ h'' = h') 1 6 0 (entL args C.2.2.1) [] h) : SpX S C d args h E h' := Sp_of hO hc hn k
theorem a_back (k : AW S C d Q X k1 k2 pc ls' st h') (hs : lsub ls' ls) (e : h = h') : AW S C d Q X k1 k2 pc ls st h := by
  rw [e]
  exact a_less k hs
theorem a_forE {n : Nat} (f : Nat → List (Option Value)) (g : Nat → aH) (e1 : lsub (f 0) ls) (e2 : h = g 0) (hn : AW S C d Q X k1 k2 pc (f n) st (g n)) (hs : ∀ j, j < n → AW S C d Q X k1 k2 pc (f (j + 1)) st (g (j + 1)) → AW S C d Q X k1 k2 pc (f j) st (g j)) : AW S C d Q X k1 k2 pc ls st h := by
  rw [e2]
  exact a_less (a_for f g hn hs) e1
/-- a loop that may be left early: by an invariant of its own -/
theorem a_loop {n : Nat} (f : Nat → List (Option Value)) (g : Nat → aH) (P : Nat → Prop) (e1 : lsub (f 0) ls) (e2 : h = g 0) (h0 : P 0) (hs : ∀ j, j ≤ n → P j → (j < n → P (j + 1) → AW S C d Q X k1 k2 pc (f (j + 1)) st (g (j + 1))) → AW S C d Q X k1 k2 pc (f j) st (g j)) : AW S C d Q X k1 k2 pc ls st h := by
  have key : ∀ i, i ≤ n → P (n - i) → AW S C d Q X k1 k2 pc (f (n - i)) st (g (n - i)) := by
    intro i
    induction i with
    | zero => intro _ hp; exact hs n (Nat.le_refl n) hp (fun z => absurd z (by omega))
    | succ i ih =>
      intro hi hp
      refine hs (n - (i + 1)) (by omega) hp (fun _ hp' => ?_)
      rw [show n - (i + 1) + 1 = n - i by omega] at hp' ⊢
      exact ih (by omega) hp'
  rw [e2]
  have := key n (Nat.le_refl n)
  rw [Nat.sub_self] at this
  exact a_less (this h0) e1
theorem a_xV {idx : Nat} {q : Nat} {E : String} (hC : look C pc = some (.invokevirtual idx, np, tgt, w)) (hl : LK C.1.cls idx C') (hM : MOv C' n) (hs : SpX S C' d' (.ref q :: As) h E h') (hn : As.length = n) (h0 : st0 = As.reverse ++ .ref q :: st) (ho : cOk d d' 1 6 k1 k2 st = true) (hq : rcv h q C'.1.cls) (hh : C.2.2.2.2.1 = []) (hX : X E h') : AW S C d Q X k1 k2 pc ls st0 h := by
  refine a_callV hC hl hM hs hn h0 ho hq hh (fun v h' hv => False.elim hv) (fun E h' hx => ?_)
  obtain ⟨rfl, rfl⟩ := hx
  exact hX
theorem a_xN {idx : Nat} {q : Nat} {E : String} (hC : look C pc = some (.invokevirtual idx, np, tgt, w)) (hl : LKn C.1.cls idx C') (hM : MOv C' n) (hs : SpX S C' d' (.ref q :: As) h E h') (hn : As.length = n) (h0 : st0 = As.reverse ++ .ref q :: st) (ho : cOk d d' 1 6 k1 k2 st = true) (hq : rcv h q C'.1.cls) (hh : C.2.2.2.2.1 = []) (hX : X E h') : AW S C d Q X k1 k2 pc ls st0 h := by
  refine a_callN hC hl hM hs hn h0 ho hq hh (fun v h' hv => False.elim hv) (fun E h' hx => ?_)
  obtain ⟨rfl, rfl⟩ := hx
  exact hX
theorem a_xS {idx : Nat} {E : String} (hC : look C pc = some (.invokestatic idx, np, tgt, w)) (hl : LK C.1.cls idx C') (hM : MOs C' n) (hs : SpX S C' d' As h E h') (hn : As.length = n) (h0 : st0 = As.reverse ++ st) (ho : cOk d d' 1 6 k1 k2 st = true) (hh : C.2.2.2.2.1 = []) (hX : X E h') : AW S C d Q X k1 k2 pc ls st0 h := by
  refine a_callS hC hl hM hs hn h0 ho hh (fun v h' hv => False.elim hv) (fun E h' hx => ?_)
  obtain ⟨rfl, rfl⟩ := hx
  exact hX
theorem a_xSN {idx : Nat} {E : String} (hC : look C pc = some (.invokestatic idx, np, tgt, w)) (hl : LKn C.1.cls idx C') (hM : MOs C' n) (hs : SpX S C' d' As h E h') (hn : As.length = n) (h0 : st0 = As.reverse ++ st) (ho : cOk d d' 1 6 k1 k2 st = true) (hh : C.2.2.2.2.1 = []) (hX : X E h') : AW S C d Q X k1 k2 pc ls st0 h := by
  refine a_callSN hC hl hM hs hn h0 ho hh (fun v h' hv => False.elim hv) (fun E h' hx => ?_)
  obtain ⟨rfl, rfl⟩ := hx
  exact hX
end B3
end
section
/-! ===== where everything lies (printed by program) ===== -/
def KL : List (Nat × Nat) := [(1, 11), (1, 7), (3, 400), (1, 6), (1, 9), (2, 401), (2, 401), (2, 401), (2, 401), (1, 5), (2, 6), (2, 6), (2, 12), (2, 12), (2, 12), (2, 12), (2, 12), (2, 12), (1, 1), (2, 240), (1, 3), (1, 9), (2, 401), (2, 401), (2, 401), (2, 401), (1, 2), (2, 12), (2, 12), (2, 12), (2, 12), (2, 400), (2, 9), (2, 32), (2, 32), (1, 5), (2, 6), (2, 6), (2, 12), (2, 12), (2, 12), (2, 12), (2, 12), (2, 12), (1, 1), (2, 240), (1, 2), (2, 12), (2, 12), (2, 12), (2, 12), (2, 400), (2, 9), (2, 32), (1, 0), (2, 12), (2, 12), (1, 5), (2, 6), (2, 6), (2, 12), (2, 12), (2, 12), (2, 12), (2, 12), (2, 12), (1, 1), (2, 240), (1, 5), (2, 6), (2, 6), (2, 12), (2, 12), (2, 12), (2, 12), (2, 12), (2, 12), (1, 1), (2, 240), (1, 2), (2, 12), (2, 12), (2, 12), (2, 12), (2, 400), (2, 9), (2, 32), (5, 12), (1, 5), (2, 6), (2, 6), (2, 12), (2, 12), (2, 12), (2, 12), (2, 12), (2, 12), (1, 1), (2, 240), (1, 5), (2, 6), (2, 6), (2, 12), (2, 12), (2, 12), (2, 12), (2, 12), (2, 12), (1, 1), (2, 240), (1, 5), (2, 6), (2, 6), (2, 12), (2, 12), (2, 12), (2, 12), (2, 12), (2, 12), (1, 1), (2, 240), (1, 5), (2, 6), (2, 6), (2, 12), (2, 12), (2, 12), (2, 12), (2, 12), (2, 12), (1, 1), (2, 240), (1, 5), (2, 6), (2, 6), (2, 12), (2, 12), (2, 12), (2, 12), (2, 12), (2, 12), (1, 1), (2, 240), (1, 5), (2, 6), (2, 6), (2, 12), (2, 12), (2, 12), (2, 12), (2, 12), (2, 12), (1, 1), (2, 240), (1, 5), (2, 6), (2, 6), (2, 12), (2, 12), (2, 12), (2, 12), (2, 12), (2, 12), (1, 1), (2, 240), (1, 5), (2, 6), (2, 6), (2, 12), (2, 12), (2, 12), (2, 12), (2, 12), (2, 12), (1, 1), (2, 240), (1, 5), (2, 6), (2, 6), (2, 12), (2, 12), (2, 12), (2, 12), (2, 12), (2, 12), (1, 1), (2, 240), (1, 5), (2, 6), (2, 6), (2, 12), (2, 12), (2, 12), (2, 12), (2, 12), (2, 12), (1, 1), (2, 240), (1, 5), (2, 6), (2, 6), (2, 12), (2, 12), (2, 12), (2, 12), (2, 12), (2, 12), (1, 1), (2, 240), (1, 5), (2, 6), (2, 6), (2, 12), (2, 12), (2, 12), (2, 12), (2, 12), (2, 12), (1, 1), (2, 240), (1, 12), (2, 2033), (2, 1184), (2, 1184), (2, 335), (2, 4020), (3, 400), (2, 5), (2, 400), (2, 6), (4, 7), (4, 1)]
theorem beqF {a b : Nat} (h : ¬ a = b) : Nat.beq a b = false := by
  cases h2 : Nat.beq a b with
  | false => rfl
  | true => exact absurd (Nat.eq_of_beq_eq_true h2) h
def nthK : List (Nat × Nat) → Nat → Nat × Nat
  | [], _ => (0, 0)
  | a :: _, 0 => a
  | _ :: r, n + 1 => nthK r n
def K0 (p : Nat) : Nat × Nat := match Nat.ble 200 p with
  | true => nthK KL (p - 200)
  | false => (0, 0)
def RL0 : List (Nat × List Nat) := [(200, [202, 204, 221, 0, 236, 247, 255, 258, 269, 280, 0, 288]), (201, [203]), (203, [205, 0, 210]), (204, [206, 207, 208, 209]), (209, [0, 211, 212, 0, 213, 214, 215, 216, 217, 218, 0, 0, 0, 0, 0, 0, 0, 219]), (218, [0, 0, 220]), (220, [222, 0, 227, 235]), (221, [223, 224, 225, 226]), (226, [0, 0, 228, 229, 230, 231, 232, 233, 234]), (235, [0, 237, 238, 0, 239, 240, 241, 242, 243, 244, 0, 0, 0, 0, 0, 0, 0, 245]), (244, [0, 0, 246]), (246, [0, 0, 248, 249, 250, 251, 252, 253, 254]), (254, [256, 257]), (257, [0, 259, 260, 0, 261, 262, 263, 264, 265, 266, 0, 0, 0, 0, 0, 0, 0, 267]), (266, [0, 0, 268]), (268, [0, 270, 271, 0, 272, 273, 274, 275, 276, 277, 0, 0, 0, 0, 0, 0, 0, 278]), (277, [0, 0, 279]), (279, [0, 0, 281, 282, 283, 284, 285, 286, 287]), (287, [289, 300, 311, 322, 333, 344, 355, 366, 377, 388, 399, 410]), (288, [0, 290, 291, 0, 292, 293, 294, 295, 296, 297, 0, 0, 0, 0, 0, 0, 0, 298]), (297, [0, 0, 299]), (299, [0, 301, 302, 0, 303, 304, 305, 306, 307, 308, 0, 0, 0, 0, 0, 0, 0, 309]), (308, [0, 0, 310]), (310, [0, 312, 313, 0, 314, 315, 316, 317, 318, 319, 0, 0, 0, 0, 0, 0, 0, 320]), (319, [0, 0, 321]), (321, [0, 323, 324, 0, 325, 326, 327, 328, 329, 330, 0, 0, 0, 0, 0, 0, 0, 331]), (330, [0, 0, 332]), (332, [0, 334, 335, 0, 336, 337, 338, 339, 340, 341, 0, 0, 0, 0, 0, 0, 0, 342]), (341, [0, 0, 343]), (343, [0, 345, 346, 0, 347, 348, 349, 350, 351, 352, 0, 0, 0, 0, 0, 0, 0, 353]), (352, [0, 0, 354]), (354, [0, 356, 357, 0, 358, 359, 360, 361, 362, 363, 0, 0, 0, 0, 0, 0, 0, 364]), (363, [0, 0, 365]), (365, [0, 367, 368, 0, 369, 370, 371, 372, 373, 374, 0, 0, 0, 0, 0, 0, 0, 375]), (374, [0, 0, 376]), (376, [0, 378, 379, 0, 380, 381, 382, 383, 384, 385, 0, 0, 0, 0, 0, 0, 0, 386]), (385, [0, 0, 387]), (387, [0, 389, 390, 0, 391, 392, 393, 394, 395, 396, 0, 0, 0, 0, 0, 0, 0, 397]), (396, [0, 0, 398]), (398, [0, 400, 401, 0, 402, 403, 404, 405, 406, 407, 0, 0, 0, 0, 0, 0, 0, 408]), (407, [0, 0, 409]), (409, [0, 411, 412, 0, 413, 414, 415, 416, 417, 418, 0, 0, 0, 0, 0, 0, 0, 419]), (418, [0, 0, 420]), (420, [0, 422, 423, 424, 425, 426, 0, 0, 427, 0, 0, 0, 0, 0, 0, 428, 0, 429, 430, 431])]
def nthN : List Nat → Nat → Nat
  | [], _ => 0
  | a :: _, 0 => a
  | _ :: r, n + 1 => nthN r n
def rcIn (p k : Nat) : List (Nat × List Nat) → Nat
  | [] => 0
  | e :: r => match Nat.beq e.1 p with
    | true => nthN e.2 k
    | false => rcIn p k r
def Rc (p k : Nat) : Nat := rcIn p k RL0
/-- the references: all fixed but the two words at hand -/
def Rw (w1 w2 : Nat) : Nat → Nat → Nat := fun p k => match Nat.beq k 9 with
  | true => match Nat.beq p 204 with
    | true => w1
    | false => match Nat.beq p 221 with
      | true => w2
      | false => Rc p k
  | false => Rc p k
theorem Rw_1 {w1 w2 x : Nat} : up2 (Rw w1 w2) 204 9 x = Rw x w2 := by
  funext p k
  by_cases hp : p = 204
  · subst hp
    by_cases hk : k = 9
    · subst hk
      simp [up2, Rw]
    · have : Nat.beq k 9 = false := beqF hk
      simp [up2, hk, Rw, this]
  · rw [up2_row hp]
    have : Nat.beq p 204 = false := beqF hp
    simp [Rw, this]
theorem Rw_2 {w1 w2 x : Nat} : up2 (Rw w1 w2) 221 9 x = Rw w1 x := by
  funext p k
  by_cases hp : p = 221
  · subst hp
    by_cases hk : k = 9
    · subst hk
      simp [up2, Rw]
    · have : Nat.beq k 9 = false := beqF hk
      simp [up2, hk, Rw, this]
  · rw [up2_row hp]
    have : Nat.beq p 221 = false := beqF hp
    simp [Rw, this]
abbrev hp (I : Nat → Nat → Int32) (L : Nat → Nat → Int64) (w1 w2 t : Nat) : aH := (K0, I, L, Rw w1 w2, t)
def stps : List Nat := [209, 235, 257, 268, 288, 299, 310, 321, 332, 343, 354, 365, 376, 387, 398, 409]
def lwps : List Nat := [226, 246, 279]
abbrev stp (a : Nat) : Prop := a ∈ stps
abbrev lwp (a : Nat) : Prop := a ∈ lwps
def skind (j : Nat) : Nat × Nat := nthK [(1, 5), (2, 6), (2, 6), (2, 12), (2, 12), (2, 12), (2, 12), (2, 12), (2, 12), (1, 1), (2, 240)] j
def lkind (j : Nat) : Nat × Nat := nthK [(1, 2), (2, 12), (2, 12), (2, 12), (2, 12), (2, 400), (2, 9), (2, 32)] j
theorem kS_all : ∀ a ∈ stps, ∀ j, j < 11 → K0 (a + j) = skind j := by decide +kernel
theorem kL_all : ∀ a ∈ lwps, ∀ j, j < 8 → K0 (a + j) = lkind j := by decide +kernel
theorem rS_all : ∀ a ∈ stps, Rc a 1 = a + 2 ∧ Rc a 2 = a + 3 ∧ Rc a 4 = a + 4 ∧ Rc a 5 = a + 5 ∧ Rc a 6 = a + 6 ∧ Rc a 7 = a + 7 ∧ Rc a 8 = a + 8 ∧ Rc a 9 = a + 9 ∧ Rc a 17 = a + 10 ∧ Rc (a + 9) 2 = a + 11 ∧ Nat.beq a 204 = false ∧ Nat.beq a 221 = false ∧ Nat.beq (a + 9) 204 = false ∧ Nat.beq (a + 9) 221 = false := by decide +kernel
theorem rL_all : ∀ a ∈ lwps, Rc a 2 = a + 2 ∧ Rc a 3 = a + 3 ∧ Rc a 4 = a + 4 ∧ Rc a 5 = a + 5 ∧ Rc a 6 = a + 6 ∧ Rc a 7 = a + 7 ∧ Rc a 8 = a + 8 := by decide +kernel
theorem stp_200 : ∀ a ∈ stps, 200 ≤ a ∧ a < 432 := by decide +kernel
theorem kS0 {a : Nat} (h : stp a) : K0 a = (1, 5) := kS_all a h 0 (by decide)
theorem kS1 {a : Nat} (h : stp a) : K0 (a + 1) = (2, 6) := kS_all a h 1 (by decide)
theorem kS2 {a : Nat} (h : stp a) : K0 (a + 2) = (2, 6) := kS_all a h 2 (by decide)
theorem kS3 {a : Nat} (h : stp a) : K0 (a + 3) = (2, 12) := kS_all a h 3 (by decide)
theorem kS4 {a : Nat} (h : stp a) : K0 (a + 4) = (2, 12) := kS_all a h 4 (by decide)
theorem kS5 {a : Nat} (h : stp a) : K0 (a + 5) = (2, 12) := kS_all a h 5 (by decide)
theorem kS6 {a : Nat} (h : stp a) : K0 (a + 6) = (2, 12) := kS_all a h 6 (by decide)
theorem kS7 {a : Nat} (h : stp a) : K0 (a + 7) = (2, 12) := kS_all a h 7 (by decide)
theorem kS8 {a : Nat} (h : stp a) : K0 (a + 8) = (2, 12) := kS_all a h 8 (by decide)
theorem kS9 {a : Nat} (h : stp a) : K0 (a + 9) = (1, 1) := kS_all a h 9 (by decide)
theorem kS10 {a : Nat} (h : stp a) : K0 (a + 10) = (2, 240) := kS_all a h 10 (by decide)
theorem kW0 {a : Nat} (h : lwp a) : K0 a = (1, 2) := kL_all a h 0 (by decide)
theorem kW1 {a : Nat} (h : lwp a) : K0 (a + 1) = (2, 12) := kL_all a h 1 (by decide)
theorem kW2 {a : Nat} (h : lwp a) : K0 (a + 2) = (2, 12) := kL_all a h 2 (by decide)
theorem kW3 {a : Nat} (h : lwp a) : K0 (a + 3) = (2, 12) := kL_all a h 3 (by decide)
theorem kW4 {a : Nat} (h : lwp a) : K0 (a + 4) = (2, 12) := kL_all a h 4 (by decide)
theorem kW5 {a : Nat} (h : lwp a) : K0 (a + 5) = (2, 400) := kL_all a h 5 (by decide)
theorem kW6 {a : Nat} (h : lwp a) : K0 (a + 6) = (2, 9) := kL_all a h 6 (by decide)
theorem kW7 {a : Nat} (h : lwp a) : K0 (a + 7) = (2, 32) := kL_all a h 7 (by decide)
theorem rS1 {a w1 w2 : Nat} (h : stp a) : Rw w1 w2 a 1 = (a + 1) + 1 := (rS_all a h).1
theorem rS2 {a w1 w2 : Nat} (h : stp a) : Rw w1 w2 a 2 = (a + 2) + 1 := (rS_all a h).2.1
theorem rS4 {a w1 w2 : Nat} (h : stp a) : Rw w1 w2 a 4 = (a + 3) + 1 := (rS_all a h).2.2.1
theorem rS5 {a w1 w2 : Nat} (h : stp a) : Rw w1 w2 a 5 = (a + 4) + 1 := (rS_all a h).2.2.2.1
theorem rS6 {a w1 w2 : Nat} (h : stp a) : Rw w1 w2 a 6 = (a + 5) + 1 := (rS_all a h).2.2.2.2.1
theorem rS7 {a w1 w2 : Nat} (h : stp a) : Rw w1 w2 a 7 = (a + 6) + 1 := (rS_all a h).2.2.2.2.2.1
theorem rS8 {a w1 w2 : Nat} (h : stp a) : Rw w1 w2 a 8 = (a + 7) + 1 := (rS_all a h).2.2.2.2.2.2.1
theorem rS9 {a w1 w2 : Nat} (h : stp a) : Rw w1 w2 a 9 = (a + 8) + 1 := by
  obtain ⟨-, -, -, -, -, -, -, h8, -, -, e1, e2, -⟩ := rS_all a h
  simp [Rw, e1, e2, h8]
theorem rS17 {a w1 w2 : Nat} (h : stp a) : Rw w1 w2 a 17 = (a + 9) + 1 := (rS_all a h).2.2.2.2.2.2.2.2.1
theorem rS29 {a w1 w2 : Nat} (h : stp a) : Rw w1 w2 (a + 9) 2 = (a + 10) + 1 := (rS_all a h).2.2.2.2.2.2.2.2.2.1
theorem rW2 {a w1 w2 : Nat} (h : lwp a) : Rw w1 w2 a 2 = (a + 1) + 1 := (rL_all a h).1
theorem rW3 {a w1 w2 : Nat} (h : lwp a) : Rw w1 w2 a 3 = (a + 2) + 1 := (rL_all a h).2.1
theorem rW4 {a w1 w2 : Nat} (h : lwp a) : Rw w1 w2 a 4 = (a + 3) + 1 := (rL_all a h).2.2.1
theorem rW5 {a w1 w2 : Nat} (h : lwp a) : Rw w1 w2 a 5 = (a + 4) + 1 := (rL_all a h).2.2.2.1
theorem rW6 {a w1 w2 : Nat} (h : lwp a) : Rw w1 w2 a 6 = (a + 5) + 1 := (rL_all a h).2.2.2.2.1
theorem rW7 {a w1 w2 : Nat} (h : lwp a) : Rw w1 w2 a 7 = (a + 6) + 1 := (rL_all a h).2.2.2.2.2.1
theorem rW8 {a w1 w2 : Nat} (h : lwp a) : Rw w1 w2 a 8 = (a + 7) + 1 := (rL_all a h).2.2.2.2.2.2
end
section
/-! ===== words of the library ===== -/
theorem mj_min : mOk Lib.Math.min.name Lib.Math.min.code 2 := ⟨(inC3 (i := 114) rfl rfl), (inC1 (i := 12) rfl rfl), (inC3 (i := 115) rfl rfl)⟩
theorem mj_max : mOk Lib.Math.max.name Lib.Math.max.code 2 := ⟨(inC2 (i := 207) rfl rfl), (inC1 (i := 12) rfl rfl), (inC2 (i := 208) rfl rfl)⟩
theorem mj_abs : mOk Lib.Math.abs.name Lib.Math.abs.code 1 := ⟨(inC8 (i := 127) rfl rfl), (inC1 (i := 12) rfl rfl), (inC8 (i := 128) rfl rfl)⟩
theorem oi_1 : inT (.instanceMethod Lib.objectInit) := (inC1 (i := 36) rfl rfl)
theorem oi_2 : inT (.code Lib.objectInit ⟨#[0xb1]⟩ 1 none) := (inC1 (i := 37) rfl rfl)
theorem ac_1 : inT (.native arraycopyName) ∧ inT (.static arraycopyName) ∧ inT (.initialized "java/lang/System") := ⟨(inC3 (i := 118) rfl rfl), (inC3 (i := 117) rfl rfl), (inC1 (i := 13) rfl rfl)⟩
theorem kJ6_265 : inT (.constant RJ6 265 1431655765) := (inC3 (i := 1) rfl rfl)
theorem kJ6_266 : inT (.constant RJ6 266 858993459) := (inC3 (i := 2) rfl rfl)
theorem kJ6_267 : inT (.constant RJ6 267 252645135) := (inC3 (i := 3) rfl rfl)
theorem kX5_148 : inT (.constant RX5 148 1103515245) := (inC3 (i := 131) rfl rfl)
theorem kX0_113 : inT (.constantLong RX0 113 10000) := (inC6 (i := 182) rfl rfl)
theorem kX12_77 : inT (.constant RX12 77 1103515245) := (inC9 (i := 21) rfl rfl)
theorem kX12_401 : inT (.constant RX12 401 1000000) := (inC9 (i := 65) rfl rfl)
theorem kX12_454 : inT (.constantLong RX12 454 100) := (inC9 (i := 233) rfl rfl)
theorem kX12_456 : inT (.constantLong RX12 456 10000) := (inC9 (i := 234) rfl rfl)
theorem ar_int : inT (.arrayClass .int) := (inC1 (i := 107) rfl rfl)
theorem ar_byte : inT (.arrayClass .byte) := (inC1 (i := 53) rfl rfl)
theorem ar_long : inT (.arrayClass .long) := (inC7 (i := 96) rfl rfl)
theorem bigTbl : lw_tbl.length < 100000 := by decide +kernel
theorem nX11_7 : LN RX11 7 7 2 := ⟨_, rfl, aok_7, rfl, (inC1 (i := 38) rfl rfl), (inC1 (i := 39) rfl rfl), (inC1 (i := 2) rfl rfl), by decide⟩
theorem nX11_16 : LN RX11 16 6 3 := ⟨_, rfl, aok_6, rfl, (inC1 (i := 54) rfl rfl), (inC1 (i := 55) rfl rfl), (inC1 (i := 4) rfl rfl), by decide⟩
theorem nX11_23 : LN RX11 23 3 6 := ⟨_, rfl, aok_3, rfl, (inC2 (i := 2) rfl rfl), (inC2 (i := 3) rfl rfl), (inC1 (i := 8) rfl rfl), by decide⟩
theorem nX11_34 : LN RX11 34 5 18 := ⟨_, rfl, aok_5, rfl, (inC2 (i := 59) rfl rfl), (inC1 (i := 109) rfl rfl), (inC1 (i := 6) rfl rfl), by decide⟩
theorem nX11_41 : LN RX11 41 2 9 := ⟨_, rfl, aok_2, rfl, (inC2 (i := 61) rfl rfl), (inC2 (i := 9) rfl rfl), (inC1 (i := 9) rfl rfl), by decide⟩
theorem nX11_48 : LN RX11 48 0 2 := ⟨_, rfl, aok_0, rfl, (inC2 (i := 63) rfl rfl), (inC2 (i := 64) rfl rfl), (inC1 (i := 10) rfl rfl), by decide⟩
/-- the words of every exception, by their places -/
theorem thr_all : ∀ w ∈ Bundle.throwableAtoms, vx_no w = true → inX w := List.forall_mem_cons.mpr ⟨fun _ => ⟨inD1 (i := 20) rfl, rfl⟩, List.forall_mem_cons.mpr ⟨fun _ => ⟨inD5 (i := 12) rfl, rfl⟩, List.forall_mem_cons.mpr ⟨fun _ => ⟨inD5 (i := 21) rfl, rfl⟩, List.forall_mem_cons.mpr ⟨fun _ => ⟨inD5 (i := 27) rfl, rfl⟩, List.forall_mem_cons.mpr ⟨fun _ => ⟨inD5 (i := 30) rfl, rfl⟩, List.forall_mem_cons.mpr ⟨fun _ => ⟨inD5 (i := 32) rfl, rfl⟩, List.forall_mem_cons.mpr ⟨fun _ => ⟨inD5 (i := 13) rfl, rfl⟩, List.forall_mem_cons.mpr ⟨fun _ => ⟨inD5 (i := 14) rfl, rfl⟩, List.forall_mem_cons.mpr ⟨fun _ => ⟨inD1 (i := 36) rfl, rfl⟩, List.forall_mem_cons.mpr ⟨fun _ => ⟨inD1 (i := 37) rfl, rfl⟩, List.forall_mem_cons.mpr ⟨fun _ => ⟨inD5 (i := 15) rfl, rfl⟩, List.forall_mem_cons.mpr ⟨fun _ => ⟨inD5 (i := 20) rfl, rfl⟩, List.forall_mem_cons.mpr ⟨fun _ => ⟨inD5 (i := 28) rfl, rfl⟩, List.forall_mem_cons.mpr ⟨fun _ => ⟨inD5 (i := 44) rfl, rfl⟩, List.forall_mem_cons.mpr ⟨fun _ => ⟨inD5 (i := 2) rfl, rfl⟩, List.forall_mem_cons.mpr ⟨fun _ => ⟨inD5 (i := 45) rfl, rfl⟩, List.forall_mem_cons.mpr ⟨fun _ => ⟨inD5 (i := 4) rfl, rfl⟩, List.forall_mem_cons.mpr ⟨fun _ => ⟨inD5 (i := 46) rfl, rfl⟩, List.forall_mem_cons.mpr ⟨fun _ => ⟨inD5 (i := 6) rfl, rfl⟩, List.forall_mem_cons.mpr ⟨fun _ => ⟨inD5 (i := 16) rfl, rfl⟩, List.forall_mem_cons.mpr ⟨fun q => absurd q (by decide +kernel), List.forall_mem_cons.mpr ⟨fun _ => ⟨inD5 (i := 18) rfl, rfl⟩, List.forall_mem_cons.mpr ⟨fun q => absurd q (by decide +kernel), List.forall_mem_cons.mpr ⟨fun _ => ⟨inD5 (i := 8) rfl, rfl⟩, fun w hw => absurd hw List.not_mem_nil⟩⟩⟩⟩⟩⟩⟩⟩⟩⟩⟩⟩⟩⟩⟩⟩⟩⟩⟩⟩⟩⟩⟩⟩
theorem at0_of {own X : String} {ic : Nat} {names : List String} (h : ∀ w ∈ (Bundle.ownAtoms0 own ic X names).drop Bundle.throwableAtoms.length, vx_no w = true → inX w) : ∀ w ∈ vx_at0 own ic X names, inX w := by
  intro w hw
  obtain ⟨hw, hn⟩ := List.mem_filter.mp (show w ∈ (Bundle.ownAtoms0 own ic X names).filter vx_no from hw)
  have e : Bundle.ownAtoms0 own ic X names = Bundle.throwableAtoms ++ (Bundle.ownAtoms0 own ic X names).drop Bundle.throwableAtoms.length := by
    unfold Bundle.ownAtoms0
    rw [List.append_assoc, List.drop_left]
  rw [e] at hw
  rcases List.mem_append.mp hw with h1 | h1
  · exact thr_all w h1 hn
  · exact h w h1 hn
theorem tX11_iae : LT RX11 86 88 "java/lang/IllegalArgumentException" ["java/lang/RuntimeException", "java/lang/Exception"] := ⟨by decide +kernel, by decide +kernel, (inC4 (i := 230) rfl rfl), (inC1 (i := 23) rfl rfl), at0_of (List.forall_mem_cons.mpr ⟨fun _ => ⟨inD5 (i := 34) rfl, rfl⟩, List.forall_mem_cons.mpr ⟨fun _ => ⟨inD5 (i := 35) rfl, rfl⟩, List.forall_mem_cons.mpr ⟨fun _ => ⟨inD5 (i := 36) rfl, rfl⟩, List.forall_mem_cons.mpr ⟨fun _ => ⟨inD5 (i := 37) rfl, rfl⟩, List.forall_mem_cons.mpr ⟨fun _ => ⟨inD4 (i := 233) rfl, rfl⟩, List.forall_mem_cons.mpr ⟨fun _ => ⟨inD5 (i := 37) rfl, rfl⟩, List.forall_mem_cons.mpr ⟨fun _ => ⟨inD5 (i := 38) rfl, rfl⟩, List.forall_mem_cons.mpr ⟨fun _ => ⟨inD5 (i := 39) rfl, rfl⟩, List.forall_mem_cons.mpr ⟨fun _ => ⟨inD5 (i := 40) rfl, rfl⟩, List.forall_mem_cons.mpr ⟨fun _ => ⟨inD4 (i := 235) rfl, rfl⟩, List.forall_mem_cons.mpr ⟨fun _ => ⟨inD5 (i := 40) rfl, rfl⟩, List.forall_mem_cons.mpr ⟨fun _ => ⟨inD5 (i := 41) rfl, rfl⟩, List.forall_mem_cons.mpr ⟨fun _ => ⟨inD5 (i := 42) rfl, rfl⟩, List.forall_mem_cons.mpr ⟨fun _ => ⟨inD5 (i := 13) rfl, rfl⟩, List.forall_mem_cons.mpr ⟨fun _ => ⟨inD4 (i := 237) rfl, rfl⟩, List.forall_mem_cons.mpr ⟨fun _ => ⟨inD5 (i := 33) rfl, rfl⟩, List.forall_mem_cons.mpr ⟨fun _ => ⟨inD4 (i := 231) rfl, rfl⟩, List.forall_mem_cons.mpr ⟨fun _ => ⟨inD4 (i := 232) rfl, rfl⟩, List.forall_mem_cons.mpr ⟨fun _ => ⟨inD4 (i := 239) rfl, rfl⟩, List.forall_mem_cons.mpr ⟨fun _ => ⟨inD5 (i := 0) rfl, rfl⟩, List.forall_mem_cons.mpr ⟨fun _ => ⟨inD5 (i := 1) rfl, rfl⟩, List.forall_mem_cons.mpr ⟨fun _ => ⟨inD5 (i := 3) rfl, rfl⟩, List.forall_mem_cons.mpr ⟨fun _ => ⟨inD5 (i := 5) rfl, rfl⟩, List.forall_mem_cons.mpr ⟨fun _ => ⟨inD5 (i := 7) rfl, rfl⟩, List.forall_mem_cons.mpr ⟨fun q => absurd q (by decide +kernel), List.forall_mem_cons.mpr ⟨fun q => absurd q (by decide +kernel), List.forall_mem_cons.mpr ⟨fun _ => ⟨inD5 (i := 11) rfl, rfl⟩, List.forall_mem_cons.mpr ⟨fun _ => ⟨inD5 (i := 10) rfl, rfl⟩, List.forall_mem_cons.mpr ⟨fun _ => ⟨inD5 (i := 9) rfl, rfl⟩, fun w hw => absurd hw List.not_mem_nil⟩⟩⟩⟩⟩⟩⟩⟩⟩⟩⟩⟩⟩⟩⟩⟩⟩⟩⟩⟩⟩⟩⟩⟩⟩⟩⟩⟩⟩), by decide⟩
theorem tX11_uoe : LT RX11 92 94 "java/lang/UnsupportedOperationException" ["java/lang/RuntimeException", "java/lang/Exception"] := ⟨by decide +kernel, by decide +kernel, (inC5 (i := 55) rfl rfl), (inC1 (i := 24) rfl rfl), at0_of (List.forall_mem_cons.mpr ⟨fun _ => ⟨inD5 (i := 65) rfl, rfl⟩, List.forall_mem_cons.mpr ⟨fun _ => ⟨inD5 (i := 66) rfl, rfl⟩, List.forall_mem_cons.mpr ⟨fun _ => ⟨inD5 (i := 67) rfl, rfl⟩, List.forall_mem_cons.mpr ⟨fun _ => ⟨inD5 (i := 37) rfl, rfl⟩, List.forall_mem_cons.mpr ⟨fun _ => ⟨inD4 (i := 233) rfl, rfl⟩, List.forall_mem_cons.mpr ⟨fun _ => ⟨inD5 (i := 37) rfl, rfl⟩, List.forall_mem_cons.mpr ⟨fun _ => ⟨inD5 (i := 38) rfl, rfl⟩, List.forall_mem_cons.mpr ⟨fun _ => ⟨inD5 (i := 39) rfl, rfl⟩, List.forall_mem_cons.mpr ⟨fun _ => ⟨inD5 (i := 40) rfl, rfl⟩, List.forall_mem_cons.mpr ⟨fun _ => ⟨inD4 (i := 235) rfl, rfl⟩, List.forall_mem_cons.mpr ⟨fun _ => ⟨inD5 (i := 40) rfl, rfl⟩, List.forall_mem_cons.mpr ⟨fun _ => ⟨inD5 (i := 41) rfl, rfl⟩, List.forall_mem_cons.mpr ⟨fun _ => ⟨inD5 (i := 42) rfl, rfl⟩, List.forall_mem_cons.mpr ⟨fun _ => ⟨inD5 (i := 13) rfl, rfl⟩, List.forall_mem_cons.mpr ⟨fun _ => ⟨inD4 (i := 237) rfl, rfl⟩, List.forall_mem_cons.mpr ⟨fun _ => ⟨inD5 (i := 64) rfl, rfl⟩, List.forall_mem_cons.mpr ⟨fun _ => ⟨inD5 (i := 56) rfl, rfl⟩, List.forall_mem_cons.mpr ⟨fun _ => ⟨inD5 (i := 57) rfl, rfl⟩, List.forall_mem_cons.mpr ⟨fun _ => ⟨inD5 (i := 58) rfl, rfl⟩, List.forall_mem_cons.mpr ⟨fun _ => ⟨inD5 (i := 25) rfl, rfl⟩, List.forall_mem_cons.mpr ⟨fun _ => ⟨inD5 (i := 59) rfl, rfl⟩, List.forall_mem_cons.mpr ⟨fun _ => ⟨inD5 (i := 60) rfl, rfl⟩, List.forall_mem_cons.mpr ⟨fun _ => ⟨inD5 (i := 61) rfl, rfl⟩, List.forall_mem_cons.mpr ⟨fun _ => ⟨inD5 (i := 62) rfl, rfl⟩, List.forall_mem_cons.mpr ⟨fun q => absurd q (by decide +kernel), List.forall_mem_cons.mpr ⟨fun q => absurd q (by decide +kernel), List.forall_mem_cons.mpr ⟨fun _ => ⟨inD5 (i := 11) rfl, rfl⟩, List.forall_mem_cons.mpr ⟨fun _ => ⟨inD5 (i := 10) rfl, rfl⟩, List.forall_mem_cons.mpr ⟨fun _ => ⟨inD5 (i := 63) rfl, rfl⟩, fun w hw => absurd hw List.not_mem_nil⟩⟩⟩⟩⟩⟩⟩⟩⟩⟩⟩⟩⟩⟩⟩⟩⟩⟩⟩⟩⟩⟩⟩⟩⟩⟩⟩⟩⟩), by decide⟩
theorem tX11_nsee : LT RX11 138 140 "java/util/NoSuchElementException" ["java/lang/RuntimeException", "java/lang/Exception"] := ⟨by decide +kernel, by decide +kernel, (inC5 (i := 120) rfl rfl), (inC1 (i := 26) rfl rfl), at0_of (List.forall_mem_cons.mpr ⟨fun _ => ⟨inD5 (i := 130) rfl, rfl⟩, List.forall_mem_cons.mpr ⟨fun _ => ⟨inD5 (i := 131) rfl, rfl⟩, List.forall_mem_cons.mpr ⟨fun _ => ⟨inD5 (i := 132) rfl, rfl⟩, List.forall_mem_cons.mpr ⟨fun _ => ⟨inD5 (i := 37) rfl, rfl⟩, List.forall_mem_cons.mpr ⟨fun _ => ⟨inD4 (i := 233) rfl, rfl⟩, List.forall_mem_cons.mpr ⟨fun _ => ⟨inD5 (i := 37) rfl, rfl⟩, List.forall_mem_cons.mpr ⟨fun _ => ⟨inD5 (i := 38) rfl, rfl⟩, List.forall_mem_cons.mpr ⟨fun _ => ⟨inD5 (i := 39) rfl, rfl⟩, List.forall_mem_cons.mpr ⟨fun _ => ⟨inD5 (i := 40) rfl, rfl⟩, List.forall_mem_cons.mpr ⟨fun _ => ⟨inD4 (i := 235) rfl, rfl⟩, List.forall_mem_cons.mpr ⟨fun _ => ⟨inD5 (i := 40) rfl, rfl⟩, List.forall_mem_cons.mpr ⟨fun _ => ⟨inD5 (i := 41) rfl, rfl⟩, List.forall_mem_cons.mpr ⟨fun _ => ⟨inD5 (i := 42) rfl, rfl⟩, List.forall_mem_cons.mpr ⟨fun _ => ⟨inD5 (i := 13) rfl, rfl⟩, List.forall_mem_cons.mpr ⟨fun _ => ⟨inD4 (i := 237) rfl, rfl⟩, List.forall_mem_cons.mpr ⟨fun _ => ⟨inD5 (i := 129) rfl, rfl⟩, List.forall_mem_cons.mpr ⟨fun _ => ⟨inD5 (i := 121) rfl, rfl⟩, List.forall_mem_cons.mpr ⟨fun _ => ⟨inD5 (i := 122) rfl, rfl⟩, List.forall_mem_cons.mpr ⟨fun _ => ⟨inD5 (i := 123) rfl, rfl⟩, List.forall_mem_cons.mpr ⟨fun _ => ⟨inD5 (i := 26) rfl, rfl⟩, List.forall_mem_cons.mpr ⟨fun _ => ⟨inD5 (i := 124) rfl, rfl⟩, List.forall_mem_cons.mpr ⟨fun _ => ⟨inD5 (i := 125) rfl, rfl⟩, List.forall_mem_cons.mpr ⟨fun _ => ⟨inD5 (i := 126) rfl, rfl⟩, List.forall_mem_cons.mpr ⟨fun _ => ⟨inD5 (i := 127) rfl, rfl⟩, List.forall_mem_cons.mpr ⟨fun q => absurd q (by decide +kernel), List.forall_mem_cons.mpr ⟨fun q => absurd q (by decide +kernel), List.forall_mem_cons.mpr ⟨fun _ => ⟨inD5 (i := 11) rfl, rfl⟩, List.forall_mem_cons.mpr ⟨fun _ => ⟨inD5 (i := 10) rfl, rfl⟩, List.forall_mem_cons.mpr ⟨fun _ => ⟨inD5 (i := 128) rfl, rfl⟩, fun w hw => absurd hw List.not_mem_nil⟩⟩⟩⟩⟩⟩⟩⟩⟩⟩⟩⟩⟩⟩⟩⟩⟩⟩⟩⟩⟩⟩⟩⟩⟩⟩⟩⟩⟩), by decide⟩
theorem tX11_ise : LT RX11 227 229 "java/lang/IllegalStateException" ["java/lang/RuntimeException", "java/lang/Exception"] := ⟨by decide +kernel, by decide +kernel, (inC5 (i := 159) rfl rfl), (inC1 (i := 28) rfl rfl), at0_of (List.forall_mem_cons.mpr ⟨fun _ => ⟨inD5 (i := 169) rfl, rfl⟩, List.forall_mem_cons.mpr ⟨fun _ => ⟨inD5 (i := 170) rfl, rfl⟩, List.forall_mem_cons.mpr ⟨fun _ => ⟨inD5 (i := 171) rfl, rfl⟩, List.forall_mem_cons.mpr ⟨fun _ => ⟨inD5 (i := 37) rfl, rfl⟩, List.forall_mem_cons.mpr ⟨fun _ => ⟨inD4 (i := 233) rfl, rfl⟩, List.forall_mem_cons.mpr ⟨fun _ => ⟨inD5 (i := 37) rfl, rfl⟩, List.forall_mem_cons.mpr ⟨fun _ => ⟨inD5 (i := 38) rfl, rfl⟩, List.forall_mem_cons.mpr ⟨fun _ => ⟨inD5 (i := 39) rfl, rfl⟩, List.forall_mem_cons.mpr ⟨fun _ => ⟨inD5 (i := 40) rfl, rfl⟩, List.forall_mem_cons.mpr ⟨fun _ => ⟨inD4 (i := 235) rfl, rfl⟩, List.forall_mem_cons.mpr ⟨fun _ => ⟨inD5 (i := 40) rfl, rfl⟩, List.forall_mem_cons.mpr ⟨fun _ => ⟨inD5 (i := 41) rfl, rfl⟩, List.forall_mem_cons.mpr ⟨fun _ => ⟨inD5 (i := 42) rfl, rfl⟩, List.forall_mem_cons.mpr ⟨fun _ => ⟨inD5 (i := 13) rfl, rfl⟩, List.forall_mem_cons.mpr ⟨fun _ => ⟨inD4 (i := 237) rfl, rfl⟩, List.forall_mem_cons.mpr ⟨fun _ => ⟨inD5 (i := 168) rfl, rfl⟩, List.forall_mem_cons.mpr ⟨fun _ => ⟨inD5 (i := 160) rfl, rfl⟩, List.forall_mem_cons.mpr ⟨fun _ => ⟨inD5 (i := 161) rfl, rfl⟩, List.forall_mem_cons.mpr ⟨fun _ => ⟨inD5 (i := 162) rfl, rfl⟩, List.forall_mem_cons.mpr ⟨fun _ => ⟨inD5 (i := 23) rfl, rfl⟩, List.forall_mem_cons.mpr ⟨fun _ => ⟨inD5 (i := 163) rfl, rfl⟩, List.forall_mem_cons.mpr ⟨fun _ => ⟨inD5 (i := 164) rfl, rfl⟩, List.forall_mem_cons.mpr ⟨fun _ => ⟨inD5 (i := 165) rfl, rfl⟩, List.forall_mem_cons.mpr ⟨fun _ => ⟨inD5 (i := 166) rfl, rfl⟩, List.forall_mem_cons.mpr ⟨fun q => absurd q (by decide +kernel), List.forall_mem_cons.mpr ⟨fun q => absurd q (by decide +kernel), List.forall_mem_cons.mpr ⟨fun _ => ⟨inD5 (i := 11) rfl, rfl⟩, List.forall_mem_cons.mpr ⟨fun _ => ⟨inD5 (i := 10) rfl, rfl⟩, List.forall_mem_cons.mpr ⟨fun _ => ⟨inD5 (i := 167) rfl, rfl⟩, fun w hw => absurd hw List.not_mem_nil⟩⟩⟩⟩⟩⟩⟩⟩⟩⟩⟩⟩⟩⟩⟩⟩⟩⟩⟩⟩⟩⟩⟩⟩⟩⟩⟩⟩⟩), by decide⟩
theorem tX11_ioobe : LT RX11 382 384 "java/lang/IndexOutOfBoundsException" ["java/lang/RuntimeException", "java/lang/Exception"] := ⟨by decide +kernel, by decide +kernel, (inC5 (i := 97) rfl rfl), (inC1 (i := 25) rfl rfl), at0_of (List.forall_mem_cons.mpr ⟨fun _ => ⟨inD5 (i := 107) rfl, rfl⟩, List.forall_mem_cons.mpr ⟨fun _ => ⟨inD5 (i := 108) rfl, rfl⟩, List.forall_mem_cons.mpr ⟨fun _ => ⟨inD5 (i := 109) rfl, rfl⟩, List.forall_mem_cons.mpr ⟨fun _ => ⟨inD5 (i := 37) rfl, rfl⟩, List.forall_mem_cons.mpr ⟨fun _ => ⟨inD4 (i := 233) rfl, rfl⟩, List.forall_mem_cons.mpr ⟨fun _ => ⟨inD5 (i := 37) rfl, rfl⟩, List.forall_mem_cons.mpr ⟨fun _ => ⟨inD5 (i := 38) rfl, rfl⟩, List.forall_mem_cons.mpr ⟨fun _ => ⟨inD5 (i := 39) rfl, rfl⟩, List.forall_mem_cons.mpr ⟨fun _ => ⟨inD5 (i := 40) rfl, rfl⟩, List.forall_mem_cons.mpr ⟨fun _ => ⟨inD4 (i := 235) rfl, rfl⟩, List.forall_mem_cons.mpr ⟨fun _ => ⟨inD5 (i := 40) rfl, rfl⟩, List.forall_mem_cons.mpr ⟨fun _ => ⟨inD5 (i := 41) rfl, rfl⟩, List.forall_mem_cons.mpr ⟨fun _ => ⟨inD5 (i := 42) rfl, rfl⟩, List.forall_mem_cons.mpr ⟨fun _ => ⟨inD5 (i := 13) rfl, rfl⟩, List.forall_mem_cons.mpr ⟨fun _ => ⟨inD4 (i := 237) rfl, rfl⟩, List.forall_mem_cons.mpr ⟨fun _ => ⟨inD5 (i := 106) rfl, rfl⟩, List.forall_mem_cons.mpr ⟨fun _ => ⟨inD5 (i := 98) rfl, rfl⟩, List.forall_mem_cons.mpr ⟨fun _ => ⟨inD5 (i := 99) rfl, rfl⟩, List.forall_mem_cons.mpr ⟨fun _ => ⟨inD5 (i := 100) rfl, rfl⟩, List.forall_mem_cons.mpr ⟨fun _ => ⟨inD5 (i := 24) rfl, rfl⟩, List.forall_mem_cons.mpr ⟨fun _ => ⟨inD5 (i := 101) rfl, rfl⟩, List.forall_mem_cons.mpr ⟨fun _ => ⟨inD5 (i := 102) rfl, rfl⟩, List.forall_mem_cons.mpr ⟨fun _ => ⟨inD5 (i := 103) rfl, rfl⟩, List.forall_mem_cons.mpr ⟨fun _ => ⟨inD5 (i := 104) rfl, rfl⟩, List.forall_mem_cons.mpr ⟨fun q => absurd q (by decide +kernel), List.forall_mem_cons.mpr ⟨fun q => absurd q (by decide +kernel), List.forall_mem_cons.mpr ⟨fun _ => ⟨inD5 (i := 11) rfl, rfl⟩, List.forall_mem_cons.mpr ⟨fun _ => ⟨inD5 (i := 10) rfl, rfl⟩, List.forall_mem_cons.mpr ⟨fun _ => ⟨inD5 (i := 105) rfl, rfl⟩, fun w hw => absurd hw List.not_mem_nil⟩⟩⟩⟩⟩⟩⟩⟩⟩⟩⟩⟩⟩⟩⟩⟩⟩⟩⟩⟩⟩⟩⟩⟩⟩⟩⟩⟩⟩), by decide⟩
theorem nX3_1 : LN RX3 1 2 9 := ⟨_, rfl, aok_2, rfl, (inC2 (i := 8) rfl rfl), (inC2 (i := 9) rfl rfl), (inC1 (i := 9) rfl rfl), by decide⟩
theorem nX5_49 : LN RX5 49 1 3 := ⟨_, rfl, aok_1, rfl, (inC1 (i := 114) rfl rfl), (inC1 (i := 115) rfl rfl), (inC1 (i := 7) rfl rfl), by decide⟩
theorem nX6_11 : LN RX6 11 5 18 := ⟨_, rfl, aok_5, rfl, (inC1 (i := 108) rfl rfl), (inC1 (i := 109) rfl rfl), (inC1 (i := 6) rfl rfl), by decide⟩
theorem nX8_9 : LN RX8 9 9 10 := ⟨_, rfl, aok_9, rfl, (inC1 (i := 63) rfl rfl), (inC1 (i := 64) rfl rfl), (inC1 (i := 5) rfl rfl), by decide⟩
theorem nL_8 : LN RL 8 11 14 := ⟨_, rfl, aok_11, rfl, (inC1 (i := 30) rfl rfl), (inC1 (i := 31) rfl rfl), (inC1 (i := 1) rfl rfl), by decide⟩
theorem nL_130 : LN RL 130 12 20 := ⟨_, rfl, aok_12, rfl, (inC7 (i := 29) rfl rfl), (inC7 (i := 30) rfl rfl), (inC1 (i := 11) rfl rfl), by decide⟩
end
section
/-! ===== the small helpers of the class ===== -/
def atF (f : Nat → Int32) (n : Nat) (i : Int32) : Int32 := if i < 0 then -1 else if nI n ≤ i then -1 else f i.toNatClampNeg
def setF (I : Nat → Nat → Int32) (p n : Nat) (i v : Int32) : Nat → Nat → Int32 := if i < 0 then I else if nI n ≤ i then I else up2 I p i.toNatClampNeg v
def bitF (i : Int32) : Int32 := if i < 0 then 0 else if 31 ≤ i then 0 else (1 : Int32) <<< (i &&& 31)
def hasF (s i : Int32) : Bool := decide (¬ (s &&& bitF i) = 0)
def bI (b : Bool) : Int32 := if b then 1 else 0
theorem bI_nar (b : Bool) : narrow .boolean (.int (bI b)) = .int (bI b) := by cases b <;> rfl
theorem K0_small : ∀ p, (K0 p).2 < 5000 := by
  have h : ∀ q ∈ KL, q.2 < 5000 := by decide +kernel
  have h2 : ∀ (l : List (Nat × Nat)) (n : Nat), (∀ q ∈ l, q.2 < 5000) → (nthK l n).2 < 5000 := by
    intro l
    induction l with
    | nil => intro n _; simp [nthK]
    | cons a r ih =>
      intro n hl
      cases n with
      | zero => exact hl a List.mem_cons_self
      | succ n => exact ih n fun q hq => hl q (List.mem_cons_of_mem _ hq)
  intro p
  unfold K0
  split
  · exact h2 _ _ h
  · simp
theorem K0_lt {p t n : Nat} (h : K0 p = (t, n)) : n < 2 ^ 31 := by
  have := K0_small p
  rw [h] at this
  omega
theorem inI_of {i : Int32} {n : Nat} (hn : n < 2 ^ 31) (h0 : ¬ i < 0) (h1 : ¬ nI n ≤ i) : inI i n := by
  refine ⟨h0, ?_⟩
  have e0 : ¬ i.toInt < 0 := by rwa [Int32.lt_iff_toInt_lt, Int32.toInt_zero] at h0
  rw [Int32.le_iff_toInt_le, nI_toInt hn] at h1
  show i.toInt.toNat < n
  omega
theorem inI_nI {i n : Nat} (h : i < n) (hn : n < 2 ^ 31) : inI (nI i) n := ⟨nI_pos (by omega), by rw [nI_clamp (by omega)]; exact h⟩
theorem atF_nI {f : Nat → Int32} {n i : Nat} (h : i < n) (hn : n < 2 ^ 31) : atF f n (nI i) = f i := by
  unfold atF
  rw [if_neg (nI_pos (by omega)), if_neg (nI_ge h hn), nI_clamp (by omega)]
theorem setF_nI {I : Nat → Nat → Int32} {p n i : Nat} {v : Int32} (h : i < n) (hn : n < 2 ^ 31) : setF I p n (nI i) v = up2 I p i v := by
  unfold setF
  rw [if_neg (nI_pos (by omega)), if_neg (nI_ge h hn), nI_clamp (by omega)]
set_option maxRecDepth 100000
theorem sp_X11_at {S : aS} {I : Nat → Nat → Int32} {L : Nat → Nat → Int64} {w1 w2 t : Nat} {row n : Nat} {i : Int32} (hK : K0 row = (2, n)) : SpE S m_X11_at 12 [.ref row, .int i] (hp I L w1 w2 t) (some (.int (atF (I row) n i))) (hp I L w1 w2 t) := by
  refine SpE_of ok_X11_at rfl rfl ?_
  show AW S m_X11_at 12 _ _ 0 0 0 [some (.ref row), some (.int i)] [] (hp I L w1 w2 t)
  refine a_l1 rfl rfl rfl ?_
  refine a_if_lt rfl (fun c1 => ?_) (fun c1 => ?_)
  · refine a_s rfl rfl ?_
    refine a_iret rfl rfl ⟨by simp [atF, *], rfl⟩
  · refine a_l1 rfl rfl rfl ?_
    refine a_l0 rfl rfl rfl ?_
    refine a_len rfl hK rfl rfl ?_
    refine a_ic_ge rfl (fun c7 => ?_) (fun c7 => ?_)
    · refine a_s rfl rfl ?_
      refine a_iret rfl rfl ⟨by simp [atF, *], rfl⟩
    · refine a_l0 rfl rfl rfl ?_
      refine a_l1 rfl rfl rfl ?_
      refine a_iald rfl hK (inI_of (K0_lt hK) c1 c7) ?_
      refine a_goto rfl ?_
      refine a_iret rfl rfl ⟨by simp [atF, *], rfl⟩
theorem sp_X11_setAt {S : aS} {I : Nat → Nat → Int32} {L : Nat → Nat → Int64} {w1 w2 t : Nat} {row n : Nat} {i v : Int32} (hK : K0 row = (2, n)) : SpE S m_X11_setAt 12 [.ref row, .int i, .int v] (hp I L w1 w2 t) none (hp (setF I row n i v) L w1 w2 t) := by
  refine SpE_of ok_X11_setAt rfl rfl ?_
  show AW S m_X11_setAt 12 _ _ 0 0 0 [some (.ref row), some (.int i), some (.int v)] [] (hp I L w1 w2 t)
  refine a_l1 rfl rfl rfl ?_
  refine a_if_lt rfl (fun c1 => ?_) (fun c1 => ?_)
  · refine a_vret rfl rfl ⟨rfl, by simp [setF, *]⟩
  · refine a_l1 rfl rfl rfl ?_
    refine a_l0 rfl rfl rfl ?_
    refine a_len rfl hK rfl rfl ?_
    refine a_ic_ge rfl (fun c7 => ?_) (fun c7 => ?_)
    · refine a_vret rfl rfl ⟨rfl, by simp [setF, *]⟩
    · refine a_l0 rfl rfl rfl ?_
      refine a_l1 rfl rfl rfl ?_
      refine a_l2 rfl rfl rfl ?_
      refine a_iast rfl hK (inI_of (K0_lt hK) c1 c7) ?_
      refine a_vret rfl rfl ⟨rfl, by simp [setF, *]⟩
theorem sp_X11_bit {S : aS} {h : aH} {i : Int32} : SpE S m_X11_bit 12 [.int i] (h) (some (.int (bitF i))) (h) := by
  refine SpE_of ok_X11_bit rfl rfl ?_
  show AW S m_X11_bit 12 _ _ 0 0 0 [some (.int i)] [] (h)
  refine a_l0 rfl rfl rfl ?_
  refine a_if_lt rfl (fun c1 => ?_) (fun c1 => ?_)
  · refine a_s rfl rfl ?_
    refine a_iret rfl rfl ⟨by simp [bitF, *], rfl⟩
  · refine a_l0 rfl rfl rfl ?_
    refine a_s rfl rfl ?_
    refine a_ic_ge rfl (fun c7 => ?_) (fun c7 => ?_)
    · refine a_s rfl rfl ?_
      refine a_iret rfl rfl ⟨by simp [bitF, *], rfl⟩
    · refine a_s rfl rfl ?_
      refine a_l0 rfl rfl rfl ?_
      refine a_s rfl rfl ?_
      refine a_goto rfl ?_
      refine a_iret rfl rfl ⟨by simp [bitF, *], rfl⟩
theorem sp_X11_has {S : aS} {h : aH} {s i : Int32} : SpE S m_X11_has 13 [.int s, .int i] (h) (some (.int (bI (hasF s i)))) (h) := by
  refine SpE_of ok_X11_has rfl rfl ?_
  show AW S m_X11_has 13 _ _ 0 0 0 [some (.int s), some (.int i)] [] (h)
  refine a_l0 rfl rfl rfl ?_
  refine a_l1 rfl rfl rfl ?_
  refine a_eS1 rfl lX11_319 mo_X11_bit (sp_X11_bit) rfl rfl rfl rfl ?_
  refine a_s rfl rfl ?_
  refine a_if_eq rfl (fun c6 => ?_) (fun c6 => ?_)
  · refine a_s rfl rfl ?_
    refine a_zret rfl rfl rfl ⟨by simp [hasF, bI, *], rfl⟩
  · refine a_s rfl rfl ?_
    refine a_goto rfl ?_
    refine a_zret rfl rfl rfl ⟨by simp [hasF, bI, *], rfl⟩
end
section
/-! ===== rows, sets of bits ===== -/
def shb (s : Int32) (n : Nat) : Bool := decide (¬ ((s >>> (nI n &&& 31)) &&& 1) = 0)
def sumF (f : Nat → Int32) (s : Int32) : Nat → Int32
  | 0 => 0
  | n + 1 => if shb s n then sumF f s n + f n else sumF f s n
def bs : Nat → (Nat → Bool) → Int32
  | 0, _ => 0
  | n + 1, P => if P n then bs n P ||| bitF (nI n) else bs n P
theorem bs_congr {n : Nat} {P P' : Nat → Bool} (h : ∀ d, d < n → P d = P' d) : bs n P = bs n P' := by
  induction n with
  | zero => rfl
  | succ n ih => simp only [bs]; rw [h n (by omega), ih fun d hd => h d (by omega)]
set_option maxRecDepth 100000
theorem sp_X11_sumOver {S : aS} {I : Nat → Nat → Int32} {L : Nat → Nat → Int64} {w1 w2 t : Nat} {row n : Nat} {s : Int32} (hK : K0 row = (2, n)) : SpE S m_X11_sumOver 12 [.ref row, .int s] (hp I L w1 w2 t) (some (.int (sumF (I row) s n))) (hp I L w1 w2 t) := by
  refine SpE_of ok_X11_sumOver rfl rfl ?_
  show AW S m_X11_sumOver 12 _ _ 0 0 0 [some (.ref row), some (.int s), none, none] [] (hp I L w1 w2 t)
  refine a_s rfl rfl ?_
  refine a_s2 rfl rfl rfl rfl rfl rfl ?_
  refine a_s rfl rfl ?_
  refine a_s3 rfl rfl rfl rfl rfl rfl ?_
  refine a_forE (n := n) (fun j => [some (.ref row), some (.int s), some (.int (sumF (I row) s j)), some (.int (nI j))]) (fun j => hp I L w1 w2 t) (by simp [lsub, nI_0, sumF]) (rfl) ?_ (fun j hj ih4 => ?_)
  · refine a_l3 rfl rfl rfl ?_
    refine a_l0 rfl rfl rfl ?_
    refine a_len rfl hK rfl rfl ?_
    refine a_ic_ge rfl (fun c7 => ?_) (fun c => absurd (Int32.le_refl _) c)
    refine a_l2 rfl rfl rfl ?_
    refine a_iret rfl rfl ⟨rfl, rfl⟩
  · have hn := K0_lt hK
    refine a_l3 rfl rfl rfl ?_
    refine a_l0 rfl rfl rfl ?_
    refine a_len rfl hK rfl rfl ?_
    refine a_ic_ge rfl (fun c => absurd c (nI_ge hj (K0_lt hK))) (fun c7 => ?_)
    refine a_l1 rfl rfl rfl ?_
    refine a_l3 rfl rfl rfl ?_
    refine a_s rfl rfl ?_
    refine a_s rfl rfl ?_
    refine a_s rfl rfl ?_
    refine a_if_eq rfl (fun c15 => ?_) (fun c15 => ?_)
    · refine a_i3 rfl rfl rfl ?_
      refine a_goto rfl ?_
      exact a_back ih4 (by simp [lsub, nI_1, sumF, shb, *]) rfl
    · refine a_l2 rfl rfl rfl ?_
      refine a_l0 rfl rfl rfl ?_
      refine a_l3 rfl rfl rfl ?_
      refine a_iald rfl hK (inI_nI hj hn) ?_
      rw [nI_clamp (by omega)]
      refine a_s rfl rfl ?_
      refine a_s2 rfl rfl rfl rfl rfl rfl ?_
      refine a_i3 rfl rfl rfl ?_
      refine a_goto rfl ?_
      exact a_back ih4 (by simp [lsub, nI_1, sumF, shb, *]) rfl
end
