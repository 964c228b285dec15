section
/-! ===== the rules of AW: stack and numbers ===== -/
section A4
variable {S : aS} {C : aM} {d : Nat} {Q : Option Value → aH → Prop} {X : String → aH → Prop} {k1 k2 pc np tgt : Nat} {w : Int32} {ls ls' : List (Option Value)} {st st' : List Value} {h : aH} {ins : Instr}
theorem okd {C : aM} {pc np tgt : Nat} {w : Int32} {ins : Instr} (hO : OkM C) (hC : look C pc = some (ins, np, tgt, w)) {n : Nat} (hn : ilen ins = n + 1) : decode C.2.1 pc = .ok (ins, n + 1) ∧ np = pc + (n + 1) ∧ okX pc (ins, np, tgt, w) = true := by
  obtain ⟨h1, -, h3⟩ := hO _ _ hC
  rcases h1 with h1 | ⟨h1, h2⟩
  · exact absurd h1 (by simp only; omega)
  · simp only [hn] at h1 h2
    exact ⟨h1, h2, h3⟩
/-- what an instruction does to the stack alone -/
def sst (ins : Instr) (w : Int32) (st : List Value) : Option (List Value) := match ins, st with
  | .iconst _, st => some (.int w :: st)
  | .bipush _, st => some (.int w :: st)
  | .sipush _, st => some (.int w :: st)
  | .lconst 0, st => some (.long 0 :: st)
  | .lconst 1, st => some (.long 1 :: st)
  | .aconst_null, st => some (.null :: st)
  | .iadd, .int y :: .int x :: r => some (.int (x + y) :: r)
  | .isub, .int y :: .int x :: r => some (.int (x - y) :: r)
  | .imul, .int y :: .int x :: r => some (.int (x * y) :: r)
  | .iand, .int y :: .int x :: r => some (.int (x &&& y) :: r)
  | .ior, .int y :: .int x :: r => some (.int (x ||| y) :: r)
  | .ixor, .int y :: .int x :: r => some (.int (x ^^^ y) :: r)
  | .ineg, .int x :: r => some (.int (-x) :: r)
  | .ishl, .int y :: .int x :: r => some (.int (x <<< (y &&& 31)) :: r)
  | .ishr, .int y :: .int x :: r => some (.int (x >>> (y &&& 31)) :: r)
  | .iushr, .int y :: .int x :: r => some (.int (x.toUInt32 >>> (y.toUInt32 &&& Int32.toUInt32 31)).toInt32 :: r)
  | .ladd, .long y :: .long x :: r => some (.long (x + y) :: r)
  | .lsub, .long y :: .long x :: r => some (.long (x - y) :: r)
  | .lmul, .long y :: .long x :: r => some (.long (x * y) :: r)
  | .lcmp, .long y :: .long x :: r => some (.int (lg_cmp x y) :: r)
  | .i2l, .int x :: r => some (.long x.toInt64 :: r)
  | .l2i, .long x :: r => some (.int x.toInt32 :: r)
  | .i2b, .int x :: r => some (.int x.toInt8.toInt32 :: r)
  | .dup, .int x :: r => some (.int x :: .int x :: r)
  | .dup, .ref x :: r => some (.ref x :: .ref x :: r)
  | .dup, .null :: r => some (.null :: .null :: r)
  | .pop, .int _ :: r => some r
  | .pop, .ref _ :: r => some r
  | .pop, .null :: r => some r
  | .dup2, .int y :: .ref x :: r => some (.int y :: .ref x :: .int y :: .ref x :: r)
  | .dup2, .int y :: .int x :: r => some (.int y :: .int x :: .int y :: .int x :: r)
  | .dup2, .long x :: r => some (.long x :: .long x :: r)
  | _, _ => none
set_option maxHeartbeats 4000000 in
theorem a_s (hC : look C pc = some (ins, np, tgt, w)) (hs : sst ins w st = some st') (k : AW S C d Q X k1 k2 np ls st' h) : AW S C d Q X k1 k2 pc ls st h := by
  intro p l e s m args below meth c H la locs cells slots mc ms G CC hS hL hR hF h1 h2
  have K := k p l e s m args below meth c H la locs cells slots mc ms G CC hS hL hR hF h1 h2
  have hx := CC.1
  have hb := CC.2.1
  have hO := CC.2.2.2.2.2.2.2.2.2
  clear CC
  unfold sst at hs
  split at hs <;> first | (cases hs; done) | (cases hs; obtain ⟨hd, rfl, ho⟩ := okd hO hC rfl)

  · exact lv_iconst hx hb hd (of_decide_eq_true ho) K
  · exact lv_bipush hx hb hd (of_decide_eq_true ho) K
  · exact lv_sipush hx hb hd (of_decide_eq_true ho) K
  · exact lv_lconst (v := 0) hx hb hd rfl K
  · exact lv_lconst (v := 1) hx hb hd rfl K
  · exact lv_null hx hb hd K
  · exact lv_iadd hx hb hd K
  · exact lv_isub hx hb hd K
  · exact lv_imul hx hb hd K
  · exact lv_iand hx hb hd K
  · exact lv_ior hx hb hd K
  · exact lv_ixor hx hb hd K
  · exact lv_ineg hx hb hd K
  · exact lv_ishl hx hb hd K
  · exact lv_ishr hx hb hd K
  · exact lv_iushr hx hb hd rfl K
  · exact lv_ladd hx hb hd K
  · exact lv_lsub hx hb hd K
  · exact lv_lmul hx hb hd K
  · exact W.lcmp hx hb hd K
  · exact lv_i2l hx hb hd rfl K
  · exact lv_l2i hx hb hd rfl K
  · exact lv_i2b hx hb hd rfl K
  · exact lv_dup hx hb hd rfl K
  · exact lv_dup hx hb hd rfl K
  · exact lv_dup hx hb hd rfl K
  · exact lv_pop hx hb hd rfl K
  · exact lv_pop hx hb hd rfl K
  · exact lv_pop hx hb hd rfl K
  · exact lv_dup2_11 hx hb hd rfl rfl K
  · exact lv_dup2_11 hx hb hd rfl rfl K
  · exact lv_dup2_2 hx hb hd rfl K
theorem a_idiv {x y : Int32} {r : List Value} (hC : look C pc = some (.idiv, np, tgt, w)) (hy : ¬ y = 0) (k : AW S C d Q X k1 k2 np ls (.int (x / y) :: r) h) : AW S C d Q X k1 k2 pc ls (.int y :: .int x :: r) h := by
  intro p l e s m args below meth c H la locs cells slots mc ms G CC hS hL hR hF h1 h2
  have K := k p l e s m args below meth c H la locs cells slots mc ms G CC hS hL hR hF h1 h2
  obtain ⟨hd, rfl, -⟩ := okd CC.2.2.2.2.2.2.2.2.2 hC rfl
  exact lv_idiv CC.1 CC.2.1 hd hy K
theorem a_irem {x y : Int32} {r : List Value} (hC : look C pc = some (.irem, np, tgt, w)) (hy : ¬ y = 0) (k : AW S C d Q X k1 k2 np ls (.int (x - x / y * y) :: r) h) : AW S C d Q X k1 k2 pc ls (.int y :: .int x :: r) h := by
  intro p l e s m args below meth c H la locs cells slots mc ms G CC hS hL hR hF h1 h2
  have K := k p l e s m args below meth c H la locs cells slots mc ms G CC hS hL hR hF h1 h2
  obtain ⟨hd, rfl, -⟩ := okd CC.2.2.2.2.2.2.2.2.2 hC rfl
  exact lv_irem CC.1 CC.2.1 hd hy K
theorem a_ldiv {x y : Int64} {r : List Value} (hC : look C pc = some (.ldiv, np, tgt, w)) (hy : ¬ y = 0) (k : AW S C d Q X k1 k2 np ls (.long (x / y) :: r) h) : AW S C d Q X k1 k2 pc ls (.long y :: .long x :: r) h := by
  intro p l e s m args below meth c H la locs cells slots mc ms G CC hS hL hR hF h1 h2
  have K := k p l e s m args below meth c H la locs cells slots mc ms G CC hS hL hR hF h1 h2
  obtain ⟨hd, rfl, -⟩ := okd CC.2.2.2.2.2.2.2.2.2 hC rfl
  exact lv_ldiv CC.1 CC.2.1 hd hy K
theorem a_goto {off : Int} (hC : look C pc = some (.goto off, np, tgt, w)) (k : AW S C d Q X k1 k2 tgt ls st h) : AW S C d Q X k1 k2 pc ls st h := by
  intro p l e s m args below meth c H la locs cells slots mc ms G CC hS hL hR hF h1 h2
  have K := k p l e s m args below meth c H la locs cells slots mc ms G CC hS hL hR hF h1 h2
  obtain ⟨hd, -, ho⟩ := okd CC.2.2.2.2.2.2.2.2.2 hC rfl
  exact lv_goto CC.1 CC.2.1 hd (of_decide_eq_true ho) K
theorem a_if_eq {x : Int32} {off : Int} (hC : look C pc = some (.ifCond .eq off, np, tgt, w)) (kt : x = 0 → AW S C d Q X k1 k2 tgt ls st h) (kf : ¬ x = 0 → AW S C d Q X k1 k2 np ls st h) : AW S C d Q X k1 k2 pc ls (.int x :: st) h := by
  intro p l e s m args below meth c H la locs cells slots mc ms G CC hS hL hR hF h1 h2
  obtain ⟨hd, rfl, ho⟩ := okd CC.2.2.2.2.2.2.2.2.2 hC rfl
  exact lv_if_eq CC.1 CC.2.1 hd (of_decide_eq_true ho) (fun q => kt q p l e s m args below meth c H la locs cells slots mc ms G CC hS hL hR hF h1 h2) (fun q => kf q p l e s m args below meth c H la locs cells slots mc ms G CC hS hL hR hF h1 h2)
theorem a_if_ne {x : Int32} {off : Int} (hC : look C pc = some (.ifCond .ne off, np, tgt, w)) (kt : ¬ x = 0 → AW S C d Q X k1 k2 tgt ls st h) (kf : x = 0 → AW S C d Q X k1 k2 np ls st h) : AW S C d Q X k1 k2 pc ls (.int x :: st) h := by
  intro p l e s m args below meth c H la locs cells slots mc ms G CC hS hL hR hF h1 h2
  obtain ⟨hd, rfl, ho⟩ := okd CC.2.2.2.2.2.2.2.2.2 hC rfl
  exact lv_if_ne CC.1 CC.2.1 hd (of_decide_eq_true ho) (fun q => kt q p l e s m args below meth c H la locs cells slots mc ms G CC hS hL hR hF h1 h2) (fun q => kf q p l e s m args below meth c H la locs cells slots mc ms G CC hS hL hR hF h1 h2)
theorem a_if_lt {x : Int32} {off : Int} (hC : look C pc = some (.ifCond .lt off, np, tgt, w)) (kt : x < 0 → AW S C d Q X k1 k2 tgt ls st h) (kf : ¬ x < 0 → AW S C d Q X k1 k2 np ls st h) : AW S C d Q X k1 k2 pc ls (.int x :: st) h := by
  intro p l e s m args below meth c H la locs cells slots mc ms G CC hS hL hR hF h1 h2
  obtain ⟨hd, rfl, ho⟩ := okd CC.2.2.2.2.2.2.2.2.2 hC rfl
  exact lv_if_lt CC.1 CC.2.1 hd (of_decide_eq_true ho) (fun q => kt q p l e s m args below meth c H la locs cells slots mc ms G CC hS hL hR hF h1 h2) (fun q => kf q p l e s m args below meth c H la locs cells slots mc ms G CC hS hL hR hF h1 h2)
theorem a_if_ge {x : Int32} {off : Int} (hC : look C pc = some (.ifCond .ge off, np, tgt, w)) (kt : 0 ≤ x → AW S C d Q X k1 k2 tgt ls st h) (kf : ¬ 0 ≤ x → AW S C d Q X k1 k2 np ls st h) : AW S C d Q X k1 k2 pc ls (.int x :: st) h := by
  intro p l e s m args below meth c H la locs cells slots mc ms G CC hS hL hR hF h1 h2
  obtain ⟨hd, rfl, ho⟩ := okd CC.2.2.2.2.2.2.2.2.2 hC rfl
  exact lv_if_ge CC.1 CC.2.1 hd (of_decide_eq_true ho) (fun q => kt q p l e s m args below meth c H la locs cells slots mc ms G CC hS hL hR hF h1 h2) (fun q => kf q p l e s m args below meth c H la locs cells slots mc ms G CC hS hL hR hF h1 h2)
theorem a_if_gt {x : Int32} {off : Int} (hC : look C pc = some (.ifCond .gt off, np, tgt, w)) (kt : 0 < x → AW S C d Q X k1 k2 tgt ls st h) (kf : ¬ 0 < x → AW S C d Q X k1 k2 np ls st h) : AW S C d Q X k1 k2 pc ls (.int x :: st) h := by
  intro p l e s m args below meth c H la locs cells slots mc ms G CC hS hL hR hF h1 h2
  obtain ⟨hd, rfl, ho⟩ := okd CC.2.2.2.2.2.2.2.2.2 hC rfl
  exact lv_if_gt CC.1 CC.2.1 hd (of_decide_eq_true ho) (fun q => kt q p l e s m args below meth c H la locs cells slots mc ms G CC hS hL hR hF h1 h2) (fun q => kf q p l e s m args below meth c H la locs cells slots mc ms G CC hS hL hR hF h1 h2)
theorem a_if_le {x : Int32} {off : Int} (hC : look C pc = some (.ifCond .le off, np, tgt, w)) (kt : x ≤ 0 → AW S C d Q X k1 k2 tgt ls st h) (kf : ¬ x ≤ 0 → AW S C d Q X k1 k2 np ls st h) : AW S C d Q X k1 k2 pc ls (.int x :: st) h := by
  intro p l e s m args below meth c H la locs cells slots mc ms G CC hS hL hR hF h1 h2
  obtain ⟨hd, rfl, ho⟩ := okd CC.2.2.2.2.2.2.2.2.2 hC rfl
  exact lv_if_le CC.1 CC.2.1 hd (of_decide_eq_true ho) (fun q => kt q p l e s m args below meth c H la locs cells slots mc ms G CC hS hL hR hF h1 h2) (fun q => kf q p l e s m args below meth c H la locs cells slots mc ms G CC hS hL hR hF h1 h2)
theorem a_ic_eq {x y : Int32} {off : Int} (hC : look C pc = some (.if_icmp .eq off, np, tgt, w)) (kt : x = y → AW S C d Q X k1 k2 tgt ls st h) (kf : ¬ x = y → AW S C d Q X k1 k2 np ls st h) : AW S C d Q X k1 k2 pc ls (.int y :: .int x :: st) h := by
  intro p l e s m args below meth c H la locs cells slots mc ms G CC hS hL hR hF h1 h2
  obtain ⟨hd, rfl, ho⟩ := okd CC.2.2.2.2.2.2.2.2.2 hC rfl
  exact lv_icmp_eq CC.1 CC.2.1 hd (of_decide_eq_true ho) (fun q => kt q p l e s m args below meth c H la locs cells slots mc ms G CC hS hL hR hF h1 h2) (fun q => kf q p l e s m args below meth c H la locs cells slots mc ms G CC hS hL hR hF h1 h2)
theorem a_ic_ne {x y : Int32} {off : Int} (hC : look C pc = some (.if_icmp .ne off, np, tgt, w)) (kt : ¬ x = y → AW S C d Q X k1 k2 tgt ls st h) (kf : x = y → AW S C d Q X k1 k2 np ls st h) : AW S C d Q X k1 k2 pc ls (.int y :: .int x :: st) h := by
  intro p l e s m args below meth c H la locs cells slots mc ms G CC hS hL hR hF h1 h2
  obtain ⟨hd, rfl, ho⟩ := okd CC.2.2.2.2.2.2.2.2.2 hC rfl
  exact lv_icmp_ne CC.1 CC.2.1 hd (of_decide_eq_true ho) (fun q => kt q p l e s m args below meth c H la locs cells slots mc ms G CC hS hL hR hF h1 h2) (fun q => kf q p l e s m args below meth c H la locs cells slots mc ms G CC hS hL hR hF h1 h2)
theorem a_ic_lt {x y : Int32} {off : Int} (hC : look C pc = some (.if_icmp .lt off, np, tgt, w)) (kt : x < y → AW S C d Q X k1 k2 tgt ls st h) (kf : ¬ x < y → AW S C d Q X k1 k2 np ls st h) : AW S C d Q X k1 k2 pc ls (.int y :: .int x :: st) h := by
  intro p l e s m args below meth c H la locs cells slots mc ms G CC hS hL hR hF h1 h2
  obtain ⟨hd, rfl, ho⟩ := okd CC.2.2.2.2.2.2.2.2.2 hC rfl
  exact lv_icmp_lt CC.1 CC.2.1 hd (of_decide_eq_true ho) (fun q => kt q p l e s m args below meth c H la locs cells slots mc ms G CC hS hL hR hF h1 h2) (fun q => kf q p l e s m args below meth c H la locs cells slots mc ms G CC hS hL hR hF h1 h2)
theorem a_ic_ge {x y : Int32} {off : Int} (hC : look C pc = some (.if_icmp .ge off, np, tgt, w)) (kt : y ≤ x → AW S C d Q X k1 k2 tgt ls st h) (kf : ¬ y ≤ x → AW S C d Q X k1 k2 np ls st h) : AW S C d Q X k1 k2 pc ls (.int y :: .int x :: st) h := by
  intro p l e s m args below meth c H la locs cells slots mc ms G CC hS hL hR hF h1 h2
  obtain ⟨hd, rfl, ho⟩ := okd CC.2.2.2.2.2.2.2.2.2 hC rfl
  exact lv_icmp_ge CC.1 CC.2.1 hd (of_decide_eq_true ho) (fun q => kt q p l e s m args below meth c H la locs cells slots mc ms G CC hS hL hR hF h1 h2) (fun q => kf q p l e s m args below meth c H la locs cells slots mc ms G CC hS hL hR hF h1 h2)
theorem a_ic_gt {x y : Int32} {off : Int} (hC : look C pc = some (.if_icmp .gt off, np, tgt, w)) (kt : y < x → AW S C d Q X k1 k2 tgt ls st h) (kf : ¬ y < x → AW S C d Q X k1 k2 np ls st h) : AW S C d Q X k1 k2 pc ls (.int y :: .int x :: st) h := by
  intro p l e s m args below meth c H la locs cells slots mc ms G CC hS hL hR hF h1 h2
  obtain ⟨hd, rfl, ho⟩ := okd CC.2.2.2.2.2.2.2.2.2 hC rfl
  exact lv_icmp_gt CC.1 CC.2.1 hd (of_decide_eq_true ho) (fun q => kt q p l e s m args below meth c H la locs cells slots mc ms G CC hS hL hR hF h1 h2) (fun q => kf q p l e s m args below meth c H la locs cells slots mc ms G CC hS hL hR hF h1 h2)
theorem a_ic_le {x y : Int32} {off : Int} (hC : look C pc = some (.if_icmp .le off, np, tgt, w)) (kt : x ≤ y → AW S C d Q X k1 k2 tgt ls st h) (kf : ¬ x ≤ y → AW S C d Q X k1 k2 np ls st h) : AW S C d Q X k1 k2 pc ls (.int y :: .int x :: st) h := by
  intro p l e s m args below meth c H la locs cells slots mc ms G CC hS hL hR hF h1 h2
  obtain ⟨hd, rfl, ho⟩ := okd CC.2.2.2.2.2.2.2.2.2 hC rfl
  exact lv_icmp_le CC.1 CC.2.1 hd (of_decide_eq_true ho) (fun q => kt q p l e s m args below meth c H la locs cells slots mc ms G CC hS hL hR hF h1 h2) (fun q => kf q p l e s m args below meth c H la locs cells slots mc ms G CC hS hL hR hF h1 h2)
theorem a_ifnull_t {off : Int} (hC : look C pc = some (.ifnull off, np, tgt, w)) (k : AW S C d Q X k1 k2 tgt ls st h) : AW S C d Q X k1 k2 pc ls (.null :: st) h := by
  intro p l e s m args below meth c H la locs cells slots mc ms G CC hS hL hR hF h1 h2
  obtain ⟨hd, rfl, ho⟩ := okd CC.2.2.2.2.2.2.2.2.2 hC rfl
  exact lv_ifnullN CC.1 CC.2.1 hd (of_decide_eq_true ho) (k p l e s m args below meth c H la locs cells slots mc ms G CC hS hL hR hF h1 h2)
theorem a_ifnull_f {off : Int} {x : Nat} (hC : look C pc = some (.ifnull off, np, tgt, w)) (k : AW S C d Q X k1 k2 np ls st h) : AW S C d Q X k1 k2 pc ls (.ref x :: st) h := by
  intro p l e s m args below meth c H la locs cells slots mc ms G CC hS hL hR hF h1 h2
  obtain ⟨hd, rfl, ho⟩ := okd CC.2.2.2.2.2.2.2.2.2 hC rfl
  exact lv_ifnull CC.1 CC.2.1 hd (k p l e s m args below meth c H la locs cells slots mc ms G CC hS hL hR hF h1 h2)
theorem a_ifnonnull_f {off : Int} (hC : look C pc = some (.ifnonnull off, np, tgt, w)) (k : AW S C d Q X k1 k2 np ls st h) : AW S C d Q X k1 k2 pc ls (.null :: st) h := by
  intro p l e s m args below meth c H la locs cells slots mc ms G CC hS hL hR hF h1 h2
  obtain ⟨hd, rfl, ho⟩ := okd CC.2.2.2.2.2.2.2.2.2 hC rfl
  exact lv_ifnonnullN CC.1 CC.2.1 hd (k p l e s m args below meth c H la locs cells slots mc ms G CC hS hL hR hF h1 h2)
theorem a_ifnonnull_t {off : Int} {x : Nat} (hC : look C pc = some (.ifnonnull off, np, tgt, w)) (k : AW S C d Q X k1 k2 tgt ls st h) : AW S C d Q X k1 k2 pc ls (.ref x :: st) h := by
  intro p l e s m args below meth c H la locs cells slots mc ms G CC hS hL hR hF h1 h2
  obtain ⟨hd, rfl, ho⟩ := okd CC.2.2.2.2.2.2.2.2.2 hC rfl
  exact lv_ifnonnull CC.1 CC.2.1 hd (of_decide_eq_true ho) (k p l e s m args below meth c H la locs cells slots mc ms G CC hS hL hR hF h1 h2)
/-- 'a.word != Word.X': words are constants, apart or null; rx, ry as reference numbers -/
theorem a_acmp_ne {rx ry : Nat} {off : Int} (hC : look C pc = some (.if_acmp .ne off, np, tgt, w)) (hx : rx = 0 ∨ ∃ E, (rx - 1, E) ∈ S.2.1) (hy : ry = 0 ∨ ∃ E, (ry - 1, E) ∈ S.2.1) (kt : ¬ rx = ry → AW S C d Q X k1 k2 tgt ls st h) (kf : rx = ry → AW S C d Q X k1 k2 np ls st h) : AW S C d Q X k1 k2 pc ls (rv ry :: rv rx :: st) h := by
  intro p l e s m args below meth c H la locs cells slots mc ms G CC hS hL hR hF h1 h2
  obtain ⟨hd, rfl, ho⟩ := okd CC.2.2.2.2.2.2.2.2.2 hC rfl
  have inj := hS.2.2.2.2.2.2.1
  simp only [List.map_cons, mv_rf]
  have key : rfo G rx = rfo G ry ↔ rx = ry := by
    constructor
    · intro he
      rcases rx with _ | a <;> rcases ry with _ | b
      · rfl
      · cases he
      · cases he
      · rcases hx with hx | ⟨E, hx⟩
        · cases hx
        · rcases hy with hy | ⟨E', hy⟩
          · cases hy
          · exact congrArg (· + 1) (inj (a, E) (b, E') hx hy (Option.some.inj he))
    · intro he
      rw [he]
  exact lv_acmp_ne CC.1 CC.2.1 hd (of_decide_eq_true ho) (fun q => kt (fun z => q (key.mpr z)) p l e s m args below meth c H la locs cells slots mc ms G CC hS hL hR hF h1 h2) (fun q => kf (key.mp q) p l e s m args below meth c H la locs cells slots mc ms G CC hS hL hR hF h1 h2)
end A4
end
section
/-! ===== the rules of AW: locals ===== -/
def kill : Option Value → Option Value
  | some (.long _) => none
  | some (.double _) => none
  | o => o
def lset : List (Option Value) → Nat → Value → List (Option Value)
  | [], _, _ => []
  | _ :: r, 0, v => some v :: r
  | a :: r, 1, v => kill a :: lset r 0 v
  | a :: r, n + 2, v => a :: lset r (n + 1) v
def lset0 : List (Option Value) → Int64 → List (Option Value)
  | _ :: _ :: r, x => some (.long x) :: none :: r
  | _, _ => []
def lsetL (l : List (Option Value)) (i : Nat) (x : Int64) : List (Option Value) := match i, l with
  | 0, l => lset0 l x
  | _, [] => []
  | 1, a :: r => kill a :: lset0 r x
  | n + 2, a :: r => a :: lsetL r (n + 1) x
def notLong : Option Value → Bool
  | some (.long _) => false
  | some (.double _) => false
  | _ => true
theorem kill_id {a : Option Value} (h : notLong a = true) : kill a = a := by
  rcases a with _ | v
  · rfl
  · cases v <;> first | rfl | (cases h; done)
theorem kill_some {a : Option Value} {v : Value} (h : kill a = some v) : a = some v ∧ v.category = 1 := by
  rcases a with _ | x
  · cases h
  · cases x <;> first | (cases h; done) | (cases h; exact ⟨rfl, rfl⟩)
theorem lg_lset {ls : List (Option Value)} {i j : Nat} {v x : Value} (h : lg (lset ls i v) j = some x) : (j = i ∧ x = v) ∨ (j ≠ i ∧ lg ls j = some x ∧ ¬ (j + 1 = i ∧ x.category = 2)) := by
  induction ls generalizing i j with
  | nil => simp [lset, lg] at h
  | cons a r ih =>
    rcases i with _ | _ | i
    · rcases j with _ | j
      · simp only [lset, lg] at h
        cases h
        exact Or.inl ⟨rfl, rfl⟩
      · exact Or.inr ⟨by omega, h, by omega⟩
    · rcases j with _ | j
      · simp only [lset, lg] at h
        obtain ⟨h1, h2⟩ := kill_some h
        exact Or.inr ⟨by omega, h1, by omega⟩
      · simp only [lset, lg] at h
        rcases ih h with ⟨h1, h2⟩ | ⟨h1, h2, h3⟩
        · exact Or.inl ⟨by omega, h2⟩
        · exact Or.inr ⟨by omega, h2, by omega⟩
    · rcases j with _ | j
      · exact Or.inr ⟨by omega, h, by omega⟩
      · simp only [lset, lg] at h
        rcases ih h with ⟨h1, h2⟩ | ⟨h1, h2, h3⟩
        · exact Or.inl ⟨by omega, h2⟩
        · exact Or.inr ⟨by omega, h2, fun z => h3 ⟨by omega, z.2⟩⟩
theorem lg_lsetL {ls : List (Option Value)} {i j : Nat} {v : Int64} {x : Value} (h : lg (lsetL ls i v) j = some x) : (j = i ∧ x = .long v) ∨ (j ≠ i ∧ j ≠ i + 1 ∧ lg ls j = some x ∧ ¬ (j + 1 = i ∧ x.category = 2)) := by
  have base : ∀ {l : List (Option Value)} {j : Nat}, lg (lset0 l v) j = some x → (j = 0 ∧ x = .long v) ∨ (1 < j ∧ lg l j = some x) := by
    intro l j h
    rcases l with _ | ⟨a, _ | ⟨b, r⟩⟩
    · simp [lset0, lg] at h
    · simp [lset0, lg] at h
    · rcases j with _ | _ | j
      · simp only [lset0, lg] at h
        cases h
        exact Or.inl ⟨rfl, rfl⟩
      · simp [lset0, lg] at h
      · exact Or.inr ⟨by omega, h⟩
  induction i using Nat.strongRecOn generalizing ls j with
  | _ i ih =>
    rcases i with _ | _ | i
    · have h : lg (lset0 ls v) j = some x := by cases ls <;> exact h
      rcases base h with ⟨h1, h2⟩ | ⟨h1, h2⟩
      · exact Or.inl ⟨h1, h2⟩
      · exact Or.inr ⟨by omega, by omega, h2, by omega⟩
    · rcases ls with _ | ⟨a, r⟩
      · simp [lsetL, lg] at h
      · have h : lg (kill a :: lset0 r v) j = some x := h
        rcases j with _ | j
        · obtain ⟨h1, h2⟩ := kill_some h
          exact Or.inr ⟨by omega, by omega, h1, by omega⟩
        · rcases base (show lg (lset0 r v) j = some x from h) with ⟨h1, h2⟩ | ⟨h1, h2⟩
          · exact Or.inl ⟨by omega, h2⟩
          · exact Or.inr ⟨by omega, by omega, h2, by omega⟩
    · rcases ls with _ | ⟨a, r⟩
      · simp [lsetL, lg] at h
      · have h : lg (a :: lsetL r (i + 1) v) j = some x := by rw [lsetL] at h; exact h
        rcases j with _ | j
        · exact Or.inr ⟨by omega, by omega, h, by omega⟩
        · rcases ih (i + 1) (by omega) (show lg (lsetL r (i + 1) v) j = some x from h) with ⟨h1, h2⟩ | ⟨h1, h2, h3, h4⟩
          · exact Or.inl ⟨by omega, h2⟩
          · exact Or.inr ⟨by omega, by omega, h3, fun z => h4 ⟨by omega, z.2⟩⟩
def llO (G : aG) : Nat → List (Option Value) → List (Nat × Value)
  | _, [] => []
  | n, none :: r => llO G (n + 1) r
  | n, some v :: r => (n, mv G v) :: llO G (n + 1) r
theorem llO_mem {G : aG} {n : Nat} {ls : List (Option Value)} {q : Nat × Value} : q ∈ llO G n ls ↔ ∃ i v, lg ls i = some v ∧ q = (n + i, mv G v) := by
  induction ls generalizing n with
  | nil => simp [llO, lg]
  | cons a r ih =>
    have sh : (∃ i v, lg r i = some v ∧ q = (n + 1 + i, mv G v)) ↔ ∃ i v, lg (a :: r) (i + 1) = some v ∧ q = (n + (i + 1), mv G v) := by
      constructor
      · rintro ⟨i, v, h1, h2⟩
        exact ⟨i, v, h1, by rw [h2]; simp; omega⟩
      · rintro ⟨i, v, h1, h2⟩
        exact ⟨i, v, h1, by rw [h2]; simp; omega⟩
    cases a with
    | none =>
      rw [llO, ih, sh]
      constructor
      · rintro ⟨i, v, h⟩
        exact ⟨i + 1, v, h⟩
      · rintro ⟨i, v, h1, h2⟩
        rcases i with _ | i
        · simp [lg] at h1
        · exact ⟨i, v, h1, h2⟩
    | some x =>
      rw [llO, List.mem_cons, ih, sh]
      constructor
      · rintro (h | ⟨i, v, h⟩)
        · exact ⟨0, x, rfl, h⟩
        · exact ⟨i + 1, v, h⟩
      · rintro ⟨i, v, h1, h2⟩
        rcases i with _ | i
        · simp only [lg] at h1
          cases h1
          exact Or.inl h2
        · exact Or.inr ⟨i, v, h1, h2⟩
theorem HL.has {G : aG} {la : Array Slot} {nL : Nat} {ls : List (Option Value)} (h : HL G la nL ls) : lv_has la nL (llO G 0 ls) := by
  refine ⟨h.1, h.2.1, fun q hq => ?_⟩
  obtain ⟨i, v, h1, rfl⟩ := llO_mem.mp hq
  simpa using h.2.2 i v h1
theorem HL.st {G : aG} {la' : Array Slot} {nL i : Nat} {v : Value} {ls : List (Option Value)} (h : lv_has la' nL ((i, mv G v) :: (llO G 0 ls).filter (fun q => !(q.1 == i) && !(q.1 + 1 == i && q.2.category == 2)))) : HL G la' nL (lset ls i v) := by
  refine ⟨h.1, h.2.1, fun j x hj => ?_⟩
  rcases lg_lset hj with ⟨rfl, rfl⟩ | ⟨h1, h2, h3⟩
  · exact h.2.2 (j, mv G x) List.mem_cons_self
  · refine h.2.2 (j, mv G x) (List.mem_cons_of_mem _ (List.mem_filter.mpr ⟨llO_mem.mpr ⟨j, x, h2, by simp⟩, ?_⟩))
    simp only [Bool.and_eq_true, Bool.not_eq_true', beq_eq_false_iff_ne, ne_eq, Bool.and_eq_false_iff, mv_cat]
    refine ⟨h1, ?_⟩
    by_cases q : j + 1 = i
    · exact Or.inr fun z => h3 ⟨q, z⟩
    · exact Or.inl q
theorem HL.stL {G : aG} {la' : Array Slot} {nL i : Nat} {v : Int64} {ls : List (Option Value)} (h : lv_has la' nL ((i, .long v) :: (llO G 0 ls).filter (fun q => !(q.1 == i) && (!(q.1 == i + 1) && !(q.1 + 1 == i && q.2.category == 2))))) : HL G la' nL (lsetL ls i v) := by
  refine ⟨h.1, h.2.1, fun j x hj => ?_⟩
  rcases lg_lsetL hj with ⟨rfl, rfl⟩ | ⟨h1, h2, h3, h4⟩
  · exact h.2.2 (j, .long v) List.mem_cons_self
  · refine h.2.2 (j, mv G x) (List.mem_cons_of_mem _ (List.mem_filter.mpr ⟨llO_mem.mpr ⟨j, x, h3, by simp⟩, ?_⟩))
    simp only [Bool.and_eq_true, Bool.not_eq_true', beq_eq_false_iff_ne, ne_eq, Bool.and_eq_false_iff, mv_cat]
    refine ⟨h1, h2, ?_⟩
    by_cases q : j + 1 = i
    · exact Or.inr fun z => h4 ⟨q, z⟩
    · exact Or.inl q
theorem HL.sub {G : aG} {la : Array Slot} {nL : Nat} {ls ls' : List (Option Value)} (h : HL G la nL ls) (hs : ∀ (i : Nat) (v : Value), lg ls' i = some v → lg ls i = some v) : HL G la nL ls' := ⟨h.1, h.2.1, fun i v hi => h.2.2 i v (hs i v hi)⟩
/-- loads and stores: which local, of which kind (0 int, 1 reference, 2 long) -/
def ldI : Instr → Option (Nat × Nat)
  | .iload i => some (i, 0)
  | .iload_n i => some (i.val, 0)
  | .aload i => some (i, 1)
  | .aload_n i => some (i.val, 1)
  | .lload i => some (i, 2)
  | .lload_n i => some (i.val, 2)
  | _ => none
def stI : Instr → Option (Nat × Nat)
  | .istore i => some (i, 0)
  | .istore_n i => some (i.val, 0)
  | .astore i => some (i, 1)
  | .astore_n i => some (i.val, 1)
  | .lstore i => some (i, 2)
  | .lstore_n i => some (i.val, 2)
  | _ => none
def vty : Value → Nat
  | .int _ => 0
  | .ref _ => 1
  | .null => 1
  | .long _ => 2
  | _ => 3
section A5
variable {S : aS} {C : aM} {d : Nat} {Q : Option Value → aH → Prop} {X : String → aH → Prop} {k1 k2 pc np tgt : Nat} {w : Int32} {ls ls' r : List (Option Value)} {st st' : List Value} {h : aH} {ins : Instr}
theorem a_ld {i t : Nat} {v : Value} (hC : look C pc = some (ins, np, tgt, w)) (hi : ldI ins = some (i, t)) (hl : lg ls i = some v) (ht : vty v = t) (k : AW S C d Q X k1 k2 np ls (v :: st) h) : AW S C d Q X k1 k2 pc ls st h := by
  intro p l e s m args below meth c H la locs cells slots mc ms G CC hS hL hR hF h1 h2
  have K := k p l e s m args below meth c H la locs cells slots mc ms G CC hS hL hR hF h1 h2
  have hg := hL.2.2 i v hl
  have hx := CC.1
  have hb := CC.2.1
  have hO := CC.2.2.2.2.2.2.2.2.2
  clear CC
  unfold ldI at hi
  split at hi <;> first | (cases hi; done) | (cases hi; obtain ⟨hd, rfl, -⟩ := okd hO hC rfl; cases v <;> first | (cases ht; done) | skip)
  · exact lv_iload hx hb hd hg K
  · exact lv_iload_n hx hb hd rfl hg K
  · exact lv_aloadN hx hb hd hg K
  · exact lv_aload hx hb hd hg K
  · exact lv_aload_nN hx hb hd rfl hg K
  · exact lv_aload_n hx hb hd rfl hg K
  · exact lv_lload hx hb hd hg K
  · exact lv_lload_n hx hb hd rfl hg K
theorem a_st {i t : Nat} {v : Value} (hC : look C pc = some (ins, np, tgt, w)) (hi : stI ins = some (i, t)) (ht : vty v = t) (ht2 : t < 2) (hn : i < C.2.2.1) (k : AW S C d Q X k1 k2 np (lset ls i v) st h) : AW S C d Q X k1 k2 pc ls (v :: st) h := by
  intro p l e s m args below meth c H la locs cells slots mc ms G CC hS hL hR hF h1 h2
  have K := fun la' q => k p l e s m args below meth c H la' locs cells slots mc ms G CC hS q hR hF h1 h2
  have hx := CC.1
  have hb := CC.2.1
  have hO := CC.2.2.2.2.2.2.2.2.2
  have hh := hL.has
  clear CC
  unfold stI at hi
  split at hi <;> first | (cases hi; done) | (cases hi; obtain ⟨hd, rfl, -⟩ := okd hO hC rfl; cases v <;> first | (cases ht; done) | skip)
  · exact lv_istore hx hb hd hh hn rfl (fun la' q => K la' (HL.st q))
  · exact lv_istore_n hx hb hd rfl hh hn rfl (fun la' q => K la' (HL.st q))
  · exact lv_astoreN hx hb hd hh hn rfl (fun la' q => K la' (HL.st q))
  · exact lv_astore hx hb hd hh hn rfl (fun la' q => K la' (HL.st q))
  · exact lv_astore_nN hx hb hd rfl hh hn rfl (fun la' q => K la' (HL.st q))
  · exact lv_astore_n hx hb hd rfl hh hn rfl (fun la' q => K la' (HL.st q))
  · omega
  · omega
theorem a_stL {i : Nat} {v : Int64} (hC : look C pc = some (ins, np, tgt, w)) (hi : stI ins = some (i, 2)) (hn : i + 1 < C.2.2.1) (k : AW S C d Q X k1 k2 np (lsetL ls i v) st h) : AW S C d Q X k1 k2 pc ls (.long v :: st) h := by
  intro p l e s m args below meth c H la locs cells slots mc ms G CC hS hL hR hF h1 h2
  have K := fun la' q => k p l e s m args below meth c H la' locs cells slots mc ms G CC hS q hR hF h1 h2
  have hx := CC.1
  have hb := CC.2.1
  have hO := CC.2.2.2.2.2.2.2.2.2
  have hh := hL.has
  clear CC
  unfold stI at hi
  split at hi <;> first | (cases hi; done) | (cases hi; obtain ⟨hd, rfl, -⟩ := okd hO hC rfl)
  · exact lv_lstore hx hb hd hh hn rfl (fun la' q => K la' (HL.stL q))
  · exact lv_lstore_n hx hb hd rfl hh hn rfl (fun la' q => K la' (HL.stL q))
theorem a_inc {i : Nat} {n : Int} {x : Int32} (hC : look C pc = some (.iinc i n, np, tgt, w)) (hl : lg ls i = some (.int x)) (hn : i < C.2.2.1) (k : AW S C d Q X k1 k2 np (lset ls i (.int (x + w))) st h) : AW S C d Q X k1 k2 pc ls st h := by
  intro p l e s m args below meth c H la locs cells slots mc ms G CC hS hL hR hF h1 h2
  obtain ⟨hd, rfl, ho⟩ := okd CC.2.2.2.2.2.2.2.2.2 hC rfl
  obtain ⟨kk, hk⟩ := List.getElem?_of_mem ((llO_mem (G := G) (n := 0) (ls := ls) (q := (i, .int x))).mpr ⟨i, .int x, hl, by simp [mv]⟩)
  exact lv_iinc CC.1 CC.2.1 hd hL.has hk (by rw [of_decide_eq_true ho]) hn rfl (fun la' q => k p l e s m args below meth c H la' locs cells slots mc ms G CC hS (HL.st q) hR hF h1 h2)
/-- forget locals -/
theorem a_sub (hs : ∀ (i : Nat) (v : Value), lg ls' i = some v → lg ls i = some v) (k : AW S C d Q X k1 k2 pc ls' st h) : AW S C d Q X k1 k2 pc ls st h := by
  intro p l e s m args below meth c H la locs cells slots mc ms G CC hS hL hR hF h1 h2
  exact k p l e s m args below meth c H la locs cells slots mc ms G CC hS (hL.sub hs) hR hF h1 h2
def lsub : List (Option Value) → List (Option Value) → Prop
  | [], _ => True
  | none :: r, _ :: r' => lsub r r'
  | some v :: r, o :: r' => o = some v ∧ lsub r r'
  | _ :: _, [] => False
theorem lsub_lg {ls ls' : List (Option Value)} (h : lsub ls' ls) : ∀ (i : Nat) (v : Value), lg ls' i = some v → lg ls i = some v := by
  induction ls' generalizing ls with
  | nil => intro i v hv; simp [lg] at hv
  | cons a r ih =>
    intro i v hv
    cases ls with
    | nil => cases a <;> exact False.elim h
    | cons b r' =>
      cases a with
      | none =>
        rcases i with _ | i
        · simp [lg] at hv
        · exact ih h i v hv
      | some x =>
        obtain ⟨rfl, h⟩ := h
        rcases i with _ | i
        · exact hv
        · exact ih h i v hv
theorem a_less (k : AW S C d Q X k1 k2 pc ls' st h) (hs : lsub ls' ls) : AW S C d Q X k1 k2 pc ls st h := a_sub (lsub_lg hs) k
theorem a_l0 {t : Nat} {v : Value} (hC : look C pc = some (ins, np, tgt, w)) (hi : ldI ins = some (0, t)) (ht : vty v = t) (k : AW S C d Q X k1 k2 np (some v :: r) (v :: st) h) : AW S C d Q X k1 k2 pc (some v :: r) st h := a_ld hC hi rfl ht k
theorem a_s0 {t : Nat} {v : Value} {oo : Option Value} (hC : look C pc = some (ins, np, tgt, w)) (hi : stI ins = some (0, t)) (ht : vty v = t) (ht2 : Nat.blt t 2 = true) (hn : Nat.ble 1 C.2.2.1 = true) (k : AW S C d Q X k1 k2 np (some v :: r) st h) : AW S C d Q X k1 k2 pc (oo :: r) (v :: st) h := a_st hC hi ht (Nat.le_of_ble_eq_true ht2) (Nat.le_of_ble_eq_true hn) (k)
theorem a_sL0 {v : Int64} {oo o2 : Option Value} (hC : look C pc = some (ins, np, tgt, w)) (hi : stI ins = some (0, 2)) (hn : Nat.ble 2 C.2.2.1 = true) (k : AW S C d Q X k1 k2 np (some (.long v) :: none :: r) st h) : AW S C d Q X k1 k2 pc (oo :: o2 :: r) (.long v :: st) h := a_stL hC hi (Nat.le_of_ble_eq_true hn) (k)
theorem a_i0 {n : Int} {x : Int32} (hC : look C pc = some (.iinc 0 n, np, tgt, w)) (hn : Nat.ble 1 C.2.2.1 = true) (k : AW S C d Q X k1 k2 np (some (.int (x + w)) :: r) st h) : AW S C d Q X k1 k2 pc (some (.int x) :: r) st h := a_inc hC rfl (Nat.le_of_ble_eq_true hn) (k)
theorem a_l1 {a0 : Option Value} {t : Nat} {v : Value} (hC : look C pc = some (ins, np, tgt, w)) (hi : ldI ins = some (1, t)) (ht : vty v = t) (k : AW S C d Q X k1 k2 np (a0 :: some v :: r) (v :: st) h) : AW S C d Q X k1 k2 pc (a0 :: some v :: r) st h := a_ld hC hi rfl ht k
theorem a_s1 {a0 : Option Value} {t : Nat} {v : Value} {oo : Option Value} (hC : look C pc = some (ins, np, tgt, w)) (hi : stI ins = some (1, t)) (ht : vty v = t) (ht2 : Nat.blt t 2 = true) (hl : notLong a0 = true) (hn : Nat.ble 2 C.2.2.1 = true) (k : AW S C d Q X k1 k2 np (a0 :: some v :: r) st h) : AW S C d Q X k1 k2 pc (a0 :: oo :: r) (v :: st) h := a_st hC hi ht (Nat.le_of_ble_eq_true ht2) (Nat.le_of_ble_eq_true hn) (by rw [show lset (a0 :: oo :: r) 1 v = a0 :: some v :: r by simp [lset, kill_id hl]]; exact k)
theorem a_sL1 {a0 : Option Value} {v : Int64} {oo o2 : Option Value} (hC : look C pc = some (ins, np, tgt, w)) (hi : stI ins = some (1, 2)) (hl : notLong a0 = true) (hn : Nat.ble 3 C.2.2.1 = true) (k : AW S C d Q X k1 k2 np (a0 :: some (.long v) :: none :: r) st h) : AW S C d Q X k1 k2 pc (a0 :: oo :: o2 :: r) (.long v :: st) h := a_stL hC hi (Nat.le_of_ble_eq_true hn) (by rw [show lsetL (a0 :: oo :: o2 :: r) 1 v = a0 :: some (.long v) :: none :: r by simp [lsetL, lset0, kill_id hl]]; exact k)
theorem a_i1 {a0 : Option Value} {n : Int} {x : Int32} (hC : look C pc = some (.iinc 1 n, np, tgt, w)) (hl : notLong a0 = true) (hn : Nat.ble 2 C.2.2.1 = true) (k : AW S C d Q X k1 k2 np (a0 :: some (.int (x + w)) :: r) st h) : AW S C d Q X k1 k2 pc (a0 :: some (.int x) :: r) st h := a_inc hC rfl (Nat.le_of_ble_eq_true hn) (by rw [show lset (a0 :: some (.int x) :: r) 1 (.int (x + w)) = a0 :: some (.int (x + w)) :: r by simp [lset, kill_id hl]]; exact k)
theorem a_l2 {a0 a1 : Option Value} {t : Nat} {v : Value} (hC : look C pc = some (ins, np, tgt, w)) (hi : ldI ins = some (2, t)) (ht : vty v = t) (k : AW S C d Q X k1 k2 np (a0 :: a1 :: some v :: r) (v :: st) h) : AW S C d Q X k1 k2 pc (a0 :: a1 :: some v :: r) st h := a_ld hC hi rfl ht k
theorem a_s2 {a0 a1 : Option Value} {t : Nat} {v : Value} {oo : Option Value} (hC : look C pc = some (ins, np, tgt, w)) (hi : stI ins = some (2, t)) (ht : vty v = t) (ht2 : Nat.blt t 2 = true) (hl : notLong a1 = true) (hn : Nat.ble 3 C.2.2.1 = true) (k : AW S C d Q X k1 k2 np (a0 :: a1 :: some v :: r) st h) : AW S C d Q X k1 k2 pc (a0 :: a1 :: oo :: r) (v :: st) h := a_st hC hi ht (Nat.le_of_ble_eq_true ht2) (Nat.le_of_ble_eq_true hn) (by rw [show lset (a0 :: a1 :: oo :: r) 2 v = a0 :: a1 :: some v :: r by simp [lset, kill_id hl]]; exact k)
theorem a_sL2 {a0 a1 : Option Value} {v : Int64} {oo o2 : Option Value} (hC : look C pc = some (ins, np, tgt, w)) (hi : stI ins = some (2, 2)) (hl : notLong a1 = true) (hn : Nat.ble 4 C.2.2.1 = true) (k : AW S C d Q X k1 k2 np (a0 :: a1 :: some (.long v) :: none :: r) st h) : AW S C d Q X k1 k2 pc (a0 :: a1 :: oo :: o2 :: r) (.long v :: st) h := a_stL hC hi (Nat.le_of_ble_eq_true hn) (by rw [show lsetL (a0 :: a1 :: oo :: o2 :: r) 2 v = a0 :: a1 :: some (.long v) :: none :: r by simp [lsetL, lset0, kill_id hl]]; exact k)
theorem a_i2 {a0 a1 : Option Value} {n : Int} {x : Int32} (hC : look C pc = some (.iinc 2 n, np, tgt, w)) (hl : notLong a1 = true) (hn : Nat.ble 3 C.2.2.1 = true) (k : AW S C d Q X k1 k2 np (a0 :: a1 :: some (.int (x + w)) :: r) st h) : AW S C d Q X k1 k2 pc (a0 :: a1 :: some (.int x) :: r) st h := a_inc hC rfl (Nat.le_of_ble_eq_true hn) (by rw [show lset (a0 :: a1 :: some (.int x) :: r) 2 (.int (x + w)) = a0 :: a1 :: some (.int (x + w)) :: r by simp [lset, kill_id hl]]; exact k)
theorem a_l3 {a0 a1 a2 : Option Value} {t : Nat} {v : Value} (hC : look C pc = some (ins, np, tgt, w)) (hi : ldI ins = some (3, t)) (ht : vty v = t) (k : AW S C d Q X k1 k2 np (a0 :: a1 :: a2 :: some v :: r) (v :: st) h) : AW S C d Q X k1 k2 pc (a0 :: a1 :: a2 :: some v :: r) st h := a_ld hC hi rfl ht k
theorem a_s3 {a0 a1 a2 : Option Value} {t : Nat} {v : Value} {oo : Option Value} (hC : look C pc = some (ins, np, tgt, w)) (hi : stI ins = some (3, t)) (ht : vty v = t) (ht2 : Nat.blt t 2 = true) (hl : notLong a2 = true) (hn : Nat.ble 4 C.2.2.1 = true) (k : AW S C d Q X k1 k2 np (a0 :: a1 :: a2 :: some v :: r) st h) : AW S C d Q X k1 k2 pc (a0 :: a1 :: a2 :: oo :: r) (v :: st) h := a_st hC hi ht (Nat.le_of_ble_eq_true ht2) (Nat.le_of_ble_eq_true hn) (by rw [show lset (a0 :: a1 :: a2 :: oo :: r) 3 v = a0 :: a1 :: a2 :: some v :: r by simp [lset, kill_id hl]]; exact k)
theorem a_sL3 {a0 a1 a2 : Option Value} {v : Int64} {oo o2 : Option Value} (hC : look C pc = some (ins, np, tgt, w)) (hi : stI ins = some (3, 2)) (hl : notLong a2 = true) (hn : Nat.ble 5 C.2.2.1 = true) (k : AW S C d Q X k1 k2 np (a0 :: a1 :: a2 :: some (.long v) :: none :: r) st h) : AW S C d Q X k1 k2 pc (a0 :: a1 :: a2 :: oo :: o2 :: r) (.long v :: st) h := a_stL hC hi (Nat.le_of_ble_eq_true hn) (by rw [show lsetL (a0 :: a1 :: a2 :: oo :: o2 :: r) 3 v = a0 :: a1 :: a2 :: some (.long v) :: none :: r by simp [lsetL, lset0, kill_id hl]]; exact k)
theorem a_i3 {a0 a1 a2 : Option Value} {n : Int} {x : Int32} (hC : look C pc = some (.iinc 3 n, np, tgt, w)) (hl : notLong a2 = true) (hn : Nat.ble 4 C.2.2.1 = true) (k : AW S C d Q X k1 k2 np (a0 :: a1 :: a2 :: some (.int (x + w)) :: r) st h) : AW S C d Q X k1 k2 pc (a0 :: a1 :: a2 :: some (.int x) :: r) st h := a_inc hC rfl (Nat.le_of_ble_eq_true hn) (by rw [show lset (a0 :: a1 :: a2 :: some (.int x) :: r) 3 (.int (x + w)) = a0 :: a1 :: a2 :: some (.int (x + w)) :: r by simp [lset, kill_id hl]]; exact k)
theorem a_l4 {a0 a1 a2 a3 : Option Value} {t : Nat} {v : Value} (hC : look C pc = some (ins, np, tgt, w)) (hi : ldI ins = some (4, t)) (ht : vty v = t) (k : AW S C d Q X k1 k2 np (a0 :: a1 :: a2 :: a3 :: some v :: r) (v :: st) h) : AW S C d Q X k1 k2 pc (a0 :: a1 :: a2 :: a3 :: some v :: r) st h := a_ld hC hi rfl ht k
theorem a_s4 {a0 a1 a2 a3 : Option Value} {t : Nat} {v : Value} {oo : Option Value} (hC : look C pc = some (ins, np, tgt, w)) (hi : stI ins = some (4, t)) (ht : vty v = t) (ht2 : Nat.blt t 2 = true) (hl : notLong a3 = true) (hn : Nat.ble 5 C.2.2.1 = true) (k : AW S C d Q X k1 k2 np (a0 :: a1 :: a2 :: a3 :: some v :: r) st h) : AW S C d Q X k1 k2 pc (a0 :: a1 :: a2 :: a3 :: oo :: r) (v :: st) h := a_st hC hi ht (Nat.le_of_ble_eq_true ht2) (Nat.le_of_ble_eq_true hn) (by rw [show lset (a0 :: a1 :: a2 :: a3 :: oo :: r) 4 v = a0 :: a1 :: a2 :: a3 :: some v :: r by simp [lset, kill_id hl]]; exact k)
theorem a_sL4 {a0 a1 a2 a3 : Option Value} {v : Int64} {oo o2 : Option Value} (hC : look C pc = some (ins, np, tgt, w)) (hi : stI ins = some (4, 2)) (hl : notLong a3 = true) (hn : Nat.ble 6 C.2.2.1 = true) (k : AW S C d Q X k1 k2 np (a0 :: a1 :: a2 :: a3 :: some (.long v) :: none :: r) st h) : AW S C d Q X k1 k2 pc (a0 :: a1 :: a2 :: a3 :: oo :: o2 :: r) (.long v :: st) h := a_stL hC hi (Nat.le_of_ble_eq_true hn) (by rw [show lsetL (a0 :: a1 :: a2 :: a3 :: oo :: o2 :: r) 4 v = a0 :: a1 :: a2 :: a3 :: some (.long v) :: none :: r by simp [lsetL, lset0, kill_id hl]]; exact k)
theorem a_i4 {a0 a1 a2 a3 : Option Value} {n : Int} {x : Int32} (hC : look C pc = some (.iinc 4 n, np, tgt, w)) (hl : notLong a3 = true) (hn : Nat.ble 5 C.2.2.1 = true) (k : AW S C d Q X k1 k2 np (a0 :: a1 :: a2 :: a3 :: some (.int (x + w)) :: r) st h) : AW S C d Q X k1 k2 pc (a0 :: a1 :: a2 :: a3 :: some (.int x) :: r) st h := a_inc hC rfl (Nat.le_of_ble_eq_true hn) (by rw [show lset (a0 :: a1 :: a2 :: a3 :: some (.int x) :: r) 4 (.int (x + w)) = a0 :: a1 :: a2 :: a3 :: some (.int (x + w)) :: r by simp [lset, kill_id hl]]; exact k)
theorem a_l5 {a0 a1 a2 a3 a4 : Option Value} {t : Nat} {v : Value} (hC : look C pc = some (ins, np, tgt, w)) (hi : ldI ins = some (5, t)) (ht : vty v = t) (k : AW S C d Q X k1 k2 np (a0 :: a1 :: a2 :: a3 :: a4 :: some v :: r) (v :: st) h) : AW S C d Q X k1 k2 pc (a0 :: a1 :: a2 :: a3 :: a4 :: some v :: r) st h := a_ld hC hi rfl ht k
theorem a_s5 {a0 a1 a2 a3 a4 : Option Value} {t : Nat} {v : Value} {oo : Option Value} (hC : look C pc = some (ins, np, tgt, w)) (hi : stI ins = some (5, t)) (ht : vty v = t) (ht2 : Nat.blt t 2 = true) (hl : notLong a4 = true) (hn : Nat.ble 6 C.2.2.1 = true) (k : AW S C d Q X k1 k2 np (a0 :: a1 :: a2 :: a3 :: a4 :: some v :: r) st h) : AW S C d Q X k1 k2 pc (a0 :: a1 :: a2 :: a3 :: a4 :: oo :: r) (v :: st) h := a_st hC hi ht (Nat.le_of_ble_eq_true ht2) (Nat.le_of_ble_eq_true hn) (by rw [show lset (a0 :: a1 :: a2 :: a3 :: a4 :: oo :: r) 5 v = a0 :: a1 :: a2 :: a3 :: a4 :: some v :: r by simp [lset, kill_id hl]]; exact k)
theorem a_sL5 {a0 a1 a2 a3 a4 : Option Value} {v : Int64} {oo o2 : Option Value} (hC : look C pc = some (ins, np, tgt, w)) (hi : stI ins = some (5, 2)) (hl : notLong a4 = true) (hn : Nat.ble 7 C.2.2.1 = true) (k : AW S C d Q X k1 k2 np (a0 :: a1 :: a2 :: a3 :: a4 :: some (.long v) :: none :: r) st h) : AW S C d Q X k1 k2 pc (a0 :: a1 :: a2 :: a3 :: a4 :: oo :: o2 :: r) (.long v :: st) h := a_stL hC hi (Nat.le_of_ble_eq_true hn) (by rw [show lsetL (a0 :: a1 :: a2 :: a3 :: a4 :: oo :: o2 :: r) 5 v = a0 :: a1 :: a2 :: a3 :: a4 :: some (.long v) :: none :: r by simp [lsetL, lset0, kill_id hl]]; exact k)
theorem a_i5 {a0 a1 a2 a3 a4 : Option Value} {n : Int} {x : Int32} (hC : look C pc = some (.iinc 5 n, np, tgt, w)) (hl : notLong a4 = true) (hn : Nat.ble 6 C.2.2.1 = true) (k : AW S C d Q X k1 k2 np (a0 :: a1 :: a2 :: a3 :: a4 :: some (.int (x + w)) :: r) st h) : AW S C d Q X k1 k2 pc (a0 :: a1 :: a2 :: a3 :: a4 :: some (.int x) :: r) st h := a_inc hC rfl (Nat.le_of_ble_eq_true hn) (by rw [show lset (a0 :: a1 :: a2 :: a3 :: a4 :: some (.int x) :: r) 5 (.int (x + w)) = a0 :: a1 :: a2 :: a3 :: a4 :: some (.int (x + w)) :: r by simp [lset, kill_id hl]]; exact k)
theorem a_l6 {a0 a1 a2 a3 a4 a5 : Option Value} {t : Nat} {v : Value} (hC : look C pc = some (ins, np, tgt, w)) (hi : ldI ins = some (6, t)) (ht : vty v = t) (k : AW S C d Q X k1 k2 np (a0 :: a1 :: a2 :: a3 :: a4 :: a5 :: some v :: r) (v :: st) h) : AW S C d Q X k1 k2 pc (a0 :: a1 :: a2 :: a3 :: a4 :: a5 :: some v :: r) st h := a_ld hC hi rfl ht k
theorem a_s6 {a0 a1 a2 a3 a4 a5 : Option Value} {t : Nat} {v : Value} {oo : Option Value} (hC : look C pc = some (ins, np, tgt, w)) (hi : stI ins = some (6, t)) (ht : vty v = t) (ht2 : Nat.blt t 2 = true) (hl : notLong a5 = true) (hn : Nat.ble 7 C.2.2.1 = true) (k : AW S C d Q X k1 k2 np (a0 :: a1 :: a2 :: a3 :: a4 :: a5 :: some v :: r) st h) : AW S C d Q X k1 k2 pc (a0 :: a1 :: a2 :: a3 :: a4 :: a5 :: oo :: r) (v :: st) h := a_st hC hi ht (Nat.le_of_ble_eq_true ht2) (Nat.le_of_ble_eq_true hn) (by rw [show lset (a0 :: a1 :: a2 :: a3 :: a4 :: a5 :: oo :: r) 6 v = a0 :: a1 :: a2 :: a3 :: a4 :: a5 :: some v :: r by simp [lset, kill_id hl]]; exact k)
theorem a_sL6 {a0 a1 a2 a3 a4 a5 : Option Value} {v : Int64} {oo o2 : Option Value} (hC : look C pc = some (ins, np, tgt, w)) (hi : stI ins = some (6, 2)) (hl : notLong a5 = true) (hn : Nat.ble 8 C.2.2.1 = true) (k : AW S C d Q X k1 k2 np (a0 :: a1 :: a2 :: a3 :: a4 :: a5 :: some (.long v) :: none :: r) st h) : AW S C d Q X k1 k2 pc (a0 :: a1 :: a2 :: a3 :: a4 :: a5 :: oo :: o2 :: r) (.long v :: st) h := a_stL hC hi (Nat.le_of_ble_eq_true hn) (by rw [show lsetL (a0 :: a1 :: a2 :: a3 :: a4 :: a5 :: oo :: o2 :: r) 6 v = a0 :: a1 :: a2 :: a3 :: a4 :: a5 :: some (.long v) :: none :: r by simp [lsetL, lset0, kill_id hl]]; exact k)
theorem a_i6 {a0 a1 a2 a3 a4 a5 : Option Value} {n : Int} {x : Int32} (hC : look C pc = some (.iinc 6 n, np, tgt, w)) (hl : notLong a5 = true) (hn : Nat.ble 7 C.2.2.1 = true) (k : AW S C d Q X k1 k2 np (a0 :: a1 :: a2 :: a3 :: a4 :: a5 :: some (.int (x + w)) :: r) st h) : AW S C d Q X k1 k2 pc (a0 :: a1 :: a2 :: a3 :: a4 :: a5 :: some (.int x) :: r) st h := a_inc hC rfl (Nat.le_of_ble_eq_true hn) (by rw [show lset (a0 :: a1 :: a2 :: a3 :: a4 :: a5 :: some (.int x) :: r) 6 (.int (x + w)) = a0 :: a1 :: a2 :: a3 :: a4 :: a5 :: some (.int (x + w)) :: r by simp [lset, kill_id hl]]; exact k)
theorem a_l7 {a0 a1 a2 a3 a4 a5 a6 : Option Value} {t : Nat} {v : Value} (hC : look C pc = some (ins, np, tgt, w)) (hi : ldI ins = some (7, t)) (ht : vty v = t) (k : AW S C d Q X k1 k2 np (a0 :: a1 :: a2 :: a3 :: a4 :: a5 :: a6 :: some v :: r) (v :: st) h) : AW S C d Q X k1 k2 pc (a0 :: a1 :: a2 :: a3 :: a4 :: a5 :: a6 :: some v :: r) st h := a_ld hC hi rfl ht k
theorem a_s7 {a0 a1 a2 a3 a4 a5 a6 : Option Value} {t : Nat} {v : Value} {oo : Option Value} (hC : look C pc = some (ins, np, tgt, w)) (hi : stI ins = some (7, t)) (ht : vty v = t) (ht2 : Nat.blt t 2 = true) (hl : notLong a6 = true) (hn : Nat.ble 8 C.2.2.1 = true) (k : AW S C d Q X k1 k2 np (a0 :: a1 :: a2 :: a3 :: a4 :: a5 :: a6 :: some v :: r) st h) : AW S C d Q X k1 k2 pc (a0 :: a1 :: a2 :: a3 :: a4 :: a5 :: a6 :: oo :: r) (v :: st) h := a_st hC hi ht (Nat.le_of_ble_eq_true ht2) (Nat.le_of_ble_eq_true hn) (by rw [show lset (a0 :: a1 :: a2 :: a3 :: a4 :: a5 :: a6 :: oo :: r) 7 v = a0 :: a1 :: a2 :: a3 :: a4 :: a5 :: a6 :: some v :: r by simp [lset, kill_id hl]]; exact k)
theorem a_sL7 {a0 a1 a2 a3 a4 a5 a6 : Option Value} {v : Int64} {oo o2 : Option Value} (hC : look C pc = some (ins, np, tgt, w)) (hi : stI ins = some (7, 2)) (hl : notLong a6 = true) (hn : Nat.ble 9 C.2.2.1 = true) (k : AW S C d Q X k1 k2 np (a0 :: a1 :: a2 :: a3 :: a4 :: a5 :: a6 :: some (.long v) :: none :: r) st h) : AW S C d Q X k1 k2 pc (a0 :: a1 :: a2 :: a3 :: a4 :: a5 :: a6 :: oo :: o2 :: r) (.long v :: st) h := a_stL hC hi (Nat.le_of_ble_eq_true hn) (by rw [show lsetL (a0 :: a1 :: a2 :: a3 :: a4 :: a5 :: a6 :: oo :: o2 :: r) 7 v = a0 :: a1 :: a2 :: a3 :: a4 :: a5 :: a6 :: some (.long v) :: none :: r by simp [lsetL, lset0, kill_id hl]]; exact k)
theorem a_i7 {a0 a1 a2 a3 a4 a5 a6 : Option Value} {n : Int} {x : Int32} (hC : look C pc = some (.iinc 7 n, np, tgt, w)) (hl : notLong a6 = true) (hn : Nat.ble 8 C.2.2.1 = true) (k : AW S C d Q X k1 k2 np (a0 :: a1 :: a2 :: a3 :: a4 :: a5 :: a6 :: some (.int (x + w)) :: r) st h) : AW S C d Q X k1 k2 pc (a0 :: a1 :: a2 :: a3 :: a4 :: a5 :: a6 :: some (.int x) :: r) st h := a_inc hC rfl (Nat.le_of_ble_eq_true hn) (by rw [show lset (a0 :: a1 :: a2 :: a3 :: a4 :: a5 :: a6 :: some (.int x) :: r) 7 (.int (x + w)) = a0 :: a1 :: a2 :: a3 :: a4 :: a5 :: a6 :: some (.int (x + w)) :: r by simp [lset, kill_id hl]]; exact k)
theorem a_l8 {a0 a1 a2 a3 a4 a5 a6 a7 : Option Value} {t : Nat} {v : Value} (hC : look C pc = some (ins, np, tgt, w)) (hi : ldI ins = some (8, t)) (ht : vty v = t) (k : AW S C d Q X k1 k2 np (a0 :: a1 :: a2 :: a3 :: a4 :: a5 :: a6 :: a7 :: some v :: r) (v :: st) h) : AW S C d Q X k1 k2 pc (a0 :: a1 :: a2 :: a3 :: a4 :: a5 :: a6 :: a7 :: some v :: r) st h := a_ld hC hi rfl ht k
theorem a_s8 {a0 a1 a2 a3 a4 a5 a6 a7 : Option Value} {t : Nat} {v : Value} {oo : Option Value} (hC : look C pc = some (ins, np, tgt, w)) (hi : stI ins = some (8, t)) (ht : vty v = t) (ht2 : Nat.blt t 2 = true) (hl : notLong a7 = true) (hn : Nat.ble 9 C.2.2.1 = true) (k : AW S C d Q X k1 k2 np (a0 :: a1 :: a2 :: a3 :: a4 :: a5 :: a6 :: a7 :: some v :: r) st h) : AW S C d Q X k1 k2 pc (a0 :: a1 :: a2 :: a3 :: a4 :: a5 :: a6 :: a7 :: oo :: r) (v :: st) h := a_st hC hi ht (Nat.le_of_ble_eq_true ht2) (Nat.le_of_ble_eq_true hn) (by rw [show lset (a0 :: a1 :: a2 :: a3 :: a4 :: a5 :: a6 :: a7 :: oo :: r) 8 v = a0 :: a1 :: a2 :: a3 :: a4 :: a5 :: a6 :: a7 :: some v :: r by simp [lset, kill_id hl]]; exact k)
theorem a_sL8 {a0 a1 a2 a3 a4 a5 a6 a7 : Option Value} {v : Int64} {oo o2 : Option Value} (hC : look C pc = some (ins, np, tgt, w)) (hi : stI ins = some (8, 2)) (hl : notLong a7 = true) (hn : Nat.ble 10 C.2.2.1 = true) (k : AW S C d Q X k1 k2 np (a0 :: a1 :: a2 :: a3 :: a4 :: a5 :: a6 :: a7 :: some (.long v) :: none :: r) st h) : AW S C d Q X k1 k2 pc (a0 :: a1 :: a2 :: a3 :: a4 :: a5 :: a6 :: a7 :: oo :: o2 :: r) (.long v :: st) h := a_stL hC hi (Nat.le_of_ble_eq_true hn) (by rw [show lsetL (a0 :: a1 :: a2 :: a3 :: a4 :: a5 :: a6 :: a7 :: oo :: o2 :: r) 8 v = a0 :: a1 :: a2 :: a3 :: a4 :: a5 :: a6 :: a7 :: some (.long v) :: none :: r by simp [lsetL, lset0, kill_id hl]]; exact k)
theorem a_i8 {a0 a1 a2 a3 a4 a5 a6 a7 : Option Value} {n : Int} {x : Int32} (hC : look C pc = some (.iinc 8 n, np, tgt, w)) (hl : notLong a7 = true) (hn : Nat.ble 9 C.2.2.1 = true) (k : AW S C d Q X k1 k2 np (a0 :: a1 :: a2 :: a3 :: a4 :: a5 :: a6 :: a7 :: some (.int (x + w)) :: r) st h) : AW S C d Q X k1 k2 pc (a0 :: a1 :: a2 :: a3 :: a4 :: a5 :: a6 :: a7 :: some (.int x) :: r) st h := a_inc hC rfl (Nat.le_of_ble_eq_true hn) (by rw [show lset (a0 :: a1 :: a2 :: a3 :: a4 :: a5 :: a6 :: a7 :: some (.int x) :: r) 8 (.int (x + w)) = a0 :: a1 :: a2 :: a3 :: a4 :: a5 :: a6 :: a7 :: some (.int (x + w)) :: r by simp [lset, kill_id hl]]; exact k)
theorem a_l9 {a0 a1 a2 a3 a4 a5 a6 a7 a8 : Option Value} {t : Nat} {v : Value} (hC : look C pc = some (ins, np, tgt, w)) (hi : ldI ins = some (9, t)) (ht : vty v = t) (k : AW S C d Q X k1 k2 np (a0 :: a1 :: a2 :: a3 :: a4 :: a5 :: a6 :: a7 :: a8 :: some v :: r) (v :: st) h) : AW S C d Q X k1 k2 pc (a0 :: a1 :: a2 :: a3 :: a4 :: a5 :: a6 :: a7 :: a8 :: some v :: r) st h := a_ld hC hi rfl ht k
theorem a_s9 {a0 a1 a2 a3 a4 a5 a6 a7 a8 : Option Value} {t : Nat} {v : Value} {oo : Option Value} (hC : look C pc = some (ins, np, tgt, w)) (hi : stI ins = some (9, t)) (ht : vty v = t) (ht2 : Nat.blt t 2 = true) (hl : notLong a8 = true) (hn : Nat.ble 10 C.2.2.1 = true) (k : AW S C d Q X k1 k2 np (a0 :: a1 :: a2 :: a3 :: a4 :: a5 :: a6 :: a7 :: a8 :: some v :: r) st h) : AW S C d Q X k1 k2 pc (a0 :: a1 :: a2 :: a3 :: a4 :: a5 :: a6 :: a7 :: a8 :: oo :: r) (v :: st) h := a_st hC hi ht (Nat.le_of_ble_eq_true ht2) (Nat.le_of_ble_eq_true hn) (by rw [show lset (a0 :: a1 :: a2 :: a3 :: a4 :: a5 :: a6 :: a7 :: a8 :: oo :: r) 9 v = a0 :: a1 :: a2 :: a3 :: a4 :: a5 :: a6 :: a7 :: a8 :: some v :: r by simp [lset, kill_id hl]]; exact k)
theorem a_sL9 {a0 a1 a2 a3 a4 a5 a6 a7 a8 : Option Value} {v : Int64} {oo o2 : Option Value} (hC : look C pc = some (ins, np, tgt, w)) (hi : stI ins = some (9, 2)) (hl : notLong a8 = true) (hn : Nat.ble 11 C.2.2.1 = true) (k : AW S C d Q X k1 k2 np (a0 :: a1 :: a2 :: a3 :: a4 :: a5 :: a6 :: a7 :: a8 :: some (.long v) :: none :: r) st h) : AW S C d Q X k1 k2 pc (a0 :: a1 :: a2 :: a3 :: a4 :: a5 :: a6 :: a7 :: a8 :: oo :: o2 :: r) (.long v :: st) h := a_stL hC hi (Nat.le_of_ble_eq_true hn) (by rw [show lsetL (a0 :: a1 :: a2 :: a3 :: a4 :: a5 :: a6 :: a7 :: a8 :: oo :: o2 :: r) 9 v = a0 :: a1 :: a2 :: a3 :: a4 :: a5 :: a6 :: a7 :: a8 :: some (.long v) :: none :: r by simp [lsetL, lset0, kill_id hl]]; exact k)
theorem a_i9 {a0 a1 a2 a3 a4 a5 a6 a7 a8 : Option Value} {n : Int} {x : Int32} (hC : look C pc = some (.iinc 9 n, np, tgt, w)) (hl : notLong a8 = true) (hn : Nat.ble 10 C.2.2.1 = true) (k : AW S C d Q X k1 k2 np (a0 :: a1 :: a2 :: a3 :: a4 :: a5 :: a6 :: a7 :: a8 :: some (.int (x + w)) :: r) st h) : AW S C d Q X k1 k2 pc (a0 :: a1 :: a2 :: a3 :: a4 :: a5 :: a6 :: a7 :: a8 :: some (.int x) :: r) st h := a_inc hC rfl (Nat.le_of_ble_eq_true hn) (by rw [show lset (a0 :: a1 :: a2 :: a3 :: a4 :: a5 :: a6 :: a7 :: a8 :: some (.int x) :: r) 9 (.int (x + w)) = a0 :: a1 :: a2 :: a3 :: a4 :: a5 :: a6 :: a7 :: a8 :: some (.int (x + w)) :: r by simp [lset, kill_id hl]]; exact k)
theorem a_l10 {a0 a1 a2 a3 a4 a5 a6 a7 a8 a9 : Option Value} {t : Nat} {v : Value} (hC : look C pc = some (ins, np, tgt, w)) (hi : ldI ins = some (10, t)) (ht : vty v = t) (k : AW S C d Q X k1 k2 np (a0 :: a1 :: a2 :: a3 :: a4 :: a5 :: a6 :: a7 :: a8 :: a9 :: some v :: r) (v :: st) h) : AW S C d Q X k1 k2 pc (a0 :: a1 :: a2 :: a3 :: a4 :: a5 :: a6 :: a7 :: a8 :: a9 :: some v :: r) st h := a_ld hC hi rfl ht k
theorem a_s10 {a0 a1 a2 a3 a4 a5 a6 a7 a8 a9 : Option Value} {t : Nat} {v : Value} {oo : Option Value} (hC : look C pc = some (ins, np, tgt, w)) (hi : stI ins = some (10, t)) (ht : vty v = t) (ht2 : Nat.blt t 2 = true) (hl : notLong a9 = true) (hn : Nat.ble 11 C.2.2.1 = true) (k : AW S C d Q X k1 k2 np (a0 :: a1 :: a2 :: a3 :: a4 :: a5 :: a6 :: a7 :: a8 :: a9 :: some v :: r) st h) : AW S C d Q X k1 k2 pc (a0 :: a1 :: a2 :: a3 :: a4 :: a5 :: a6 :: a7 :: a8 :: a9 :: oo :: r) (v :: st) h := a_st hC hi ht (Nat.le_of_ble_eq_true ht2) (Nat.le_of_ble_eq_true hn) (by rw [show lset (a0 :: a1 :: a2 :: a3 :: a4 :: a5 :: a6 :: a7 :: a8 :: a9 :: oo :: r) 10 v = a0 :: a1 :: a2 :: a3 :: a4 :: a5 :: a6 :: a7 :: a8 :: a9 :: some v :: r by simp [lset, kill_id hl]]; exact k)
theorem a_sL10 {a0 a1 a2 a3 a4 a5 a6 a7 a8 a9 : Option Value} {v : Int64} {oo o2 : Option Value} (hC : look C pc = some (ins, np, tgt, w)) (hi : stI ins = some (10, 2)) (hl : notLong a9 = true) (hn : Nat.ble 12 C.2.2.1 = true) (k : AW S C d Q X k1 k2 np (a0 :: a1 :: a2 :: a3 :: a4 :: a5 :: a6 :: a7 :: a8 :: a9 :: some (.long v) :: none :: r) st h) : AW S C d Q X k1 k2 pc (a0 :: a1 :: a2 :: a3 :: a4 :: a5 :: a6 :: a7 :: a8 :: a9 :: oo :: o2 :: r) (.long v :: st) h := a_stL hC hi (Nat.le_of_ble_eq_true hn) (by rw [show lsetL (a0 :: a1 :: a2 :: a3 :: a4 :: a5 :: a6 :: a7 :: a8 :: a9 :: oo :: o2 :: r) 10 v = a0 :: a1 :: a2 :: a3 :: a4 :: a5 :: a6 :: a7 :: a8 :: a9 :: some (.long v) :: none :: r by simp [lsetL, lset0, kill_id hl]]; exact k)
theorem a_i10 {a0 a1 a2 a3 a4 a5 a6 a7 a8 a9 : Option Value} {n : Int} {x : Int32} (hC : look C pc = some (.iinc 10 n, np, tgt, w)) (hl : notLong a9 = true) (hn : Nat.ble 11 C.2.2.1 = true) (k : AW S C d Q X k1 k2 np (a0 :: a1 :: a2 :: a3 :: a4 :: a5 :: a6 :: a7 :: a8 :: a9 :: some (.int (x + w)) :: r) st h) : AW S C d Q X k1 k2 pc (a0 :: a1 :: a2 :: a3 :: a4 :: a5 :: a6 :: a7 :: a8 :: a9 :: some (.int x) :: r) st h := a_inc hC rfl (Nat.le_of_ble_eq_true hn) (by rw [show lset (a0 :: a1 :: a2 :: a3 :: a4 :: a5 :: a6 :: a7 :: a8 :: a9 :: some (.int x) :: r) 10 (.int (x + w)) = a0 :: a1 :: a2 :: a3 :: a4 :: a5 :: a6 :: a7 :: a8 :: a9 :: some (.int (x + w)) :: r by simp [lset, kill_id hl]]; exact k)
end A5
end
section
/-! ===== the rules of AW: the heap ===== -/
theorem fv_int {G : aG} {I : Nat → Nat → Int32} {R : Nat → Nat → Nat} {p k : Nat} {ty : FieldType} (h : isIntTy ty = true) : fv G I R p ty k = .int (I p k) := by
  cases ty <;> first | rfl | (cases h; done)
theorem fv_ref {G : aG} {I : Nat → Nat → Int32} {R : Nat → Nat → Nat} {p k : Nat} {ty : FieldType} (h : isRefTy ty = true) : fv G I R p ty k = mv G (rv (R p k)) := by
  cases ty <;> first | rfl | (cases h; done)
theorem Rep.ob {G : aG} {h : aH} {H : Heap} {p ci : Nat} (hR : Rep G h H) (hK : h.1 p = (1, ci)) : obA G h.2.1 h.2.2.2.1 H p ci := by
  have q := hR.1 p
  unfold cellA at q
  rw [hK] at q
  exact q
theorem Rep.ar {G : aG} {h : aH} {H : Heap} {p t n : Nat} (hR : Rep G h H) (hK : h.1 p = (t + 2, n)) : arA G h.2.1 h.2.2.1 h.2.2.2.1 H p (t + 2) n := by
  have q := hR.1 p
  unfold cellA at q
  rw [hK] at q
  exact q
theorem cellA_congr {G : aG} {K : Nat → Nat × Nat} {I I' : Nat → Nat → Int32} {L L' : Nat → Nat → Int64} {R R' : Nat → Nat → Nat} {t t' : Nat} {H H' : Heap} {q : Nat} (hI : I' q = I q) (hL : L' q = L q) (hR : R' q = R q) (hH : (K q).1 ≠ 0 → H'[ad G q]? = H[ad G q]?) (h : cellA G (K, I, L, R, t) H q) : cellA G (K, I', L', R', t') H' q := by
  unfold cellA at h ⊢
  dsimp only at h ⊢
  rcases hk : K q with ⟨a, b⟩
  rw [hk] at h hH
  rcases a with _ | _ | a
  · trivial
  · obtain ⟨r, h1, cell, h2, h3, h4, h5⟩ := h
    refine ⟨r, h1, cell, (hH (by simp)).trans h2, h3, h4, fun k hk => ?_⟩
    rw [h5 k hk]
    cases r.2 k <;> simp [fv, hI, hR]
  · have e : (fun j => ev G I' L' R' (a + 2) q j) = fun j => ev G I L R (a + 2) q j := by
      funext j
      unfold ev
      rw [hI, hL, hR]
    show H'[ad G q]? = some (arrV _ _ _)
    rw [e, hH (by simp)]
    exact h
theorem ad_inj {G : aG} {p q : Nat} (hp : 200 ≤ p) (hq : 200 ≤ q) (h : ad G p = ad G q) : p = q := by
  rw [ad_dyn hp, ad_dyn hq] at h
  omega
theorem aA_ad {G : aG} {p : Nat} (hp : 200 ≤ p) : aA G (ad G p) := by
  rw [ad_dyn hp]
  exact Nat.le_add_right _ _
/-- one place is written -/
theorem Rep.set {G : aG} {K : Nat → Nat × Nat} {I I' : Nat → Nat → Int32} {L L' : Nat → Nat → Int64} {R R' : Nat → Nat → Nat} {t : Nat} {H H' : Heap} {p : Nat} (hR : Rep G (K, I, L, R, t) H) (hp : 200 ≤ p) (hI : ∀ q, q ≠ p → I' q = I q) (hL : ∀ q, q ≠ p → L' q = L q) (hRR : ∀ q, q ≠ p → R' q = R q) (hz : H'.size = H.size) (hH : ∀ q : Nat, q ≠ ad G p → H'[q]? = H[q]?) (h : cellA G (K, I', L', R', t) H' p) : Rep G (K, I', L', R', t) H' := by
  obtain ⟨h1, h2, h3, h4⟩ := hR
  refine ⟨fun q => ?_, h2, fun z => by rw [hz]; exact h3 z, by rw [hz]; exact h4⟩
  by_cases hq : q = p
  · subst hq
    exact h
  · exact cellA_congr (hI q hq) (hL q hq) (hRR q hq) (fun hk => hH _ fun e => hq (ad_inj (h2 q hk) hp e)) (h1 q)
section A6
variable {S : aS} {C : aM} {d : Nat} {Q : Option Value → aH → Prop} {X : String → aH → Prop} {k1 k2 pc np tgt : Nat} {w : Int32} {ls ls' : List (Option Value)} {st st' : List Value} {h : aH} {ins : Instr}
variable {K : Nat → Nat × Nat} {I : Nat → Nat → Int32} {L : Nat → Nat → Int64} {R : Nat → Nat → Nat} {t : Nat}
/-- more may be made -/
theorem a_room {j1 j2 : Nat} (h1 : j1 ≤ k1) (h2 : j2 ≤ k2) (k : AW S C d Q X j1 j2 pc ls st h) : AW S C d Q X k1 k2 pc ls st h := by
  intro p l e s m args below meth c H la locs cells slots mc ms G CC hS hL hR hF g1 g2
  exact k p l e s m args below meth c H la locs cells slots mc ms G CC hS hL hR hF (by omega) (by omega)
/-- what the tables say of a field -/
theorem lf_use {own : String} {idx ci k : Nat} {r : vw_C × (Nat → FieldType)} {G : aG} {s : State} {args : Array Value} (hf : LF own idx ci k r) (hS : SW S G s) :
    ∃ (ref : String) (cf : ClassId) (kf : Class) (fi : Nat) (f : Field), (Cond.fieldLink own idx ref (r.1.2.1 k).2.1 (r.1.2.1 k).2.2.1).before args s = true ∧ s.fieldFound? ref (r.1.2.1 k).2.1 (r.1.2.1 k).2.2.1 = some (cf, kf, fi, f) ∧ s.fieldFound? (r.1.2.1 k).1 (r.1.2.1 k).2.1 (r.1.2.1 k).2.2.1 = some (cf, kf, fi, f) ∧ f.isStatic = false ∧ f.slot = G.1.2 ci k := by
  obtain ⟨hc, ⟨hws, -, -⟩, hk, ref, hl, hsame⟩ := hf
  obtain ⟨hSl, hfc, kC, hkC, hkind⟩ := hS.1 ci r hc
  obtain ⟨cf, kf, fi, f, hi, hsl⟩ := hSl k hk
  have hts : ∀ w ∈ u_ws r.1.1 r.1.2.1 r.1.2.2, w.before args s = true := fun w hw => hS.2.2.1 w (hws w hw).1 (by rw [(hws w hw).2]; rfl) args
  refine ⟨ref, cf, kf, fi, f, hS.2.2.1 _ hl rfl args, ?_, hi, (u_facts hfc hkC (u_lays hts (fun w hw => hw) hk) hi).1, hsl⟩
  rcases hsame with rfl | hs
  · exact hi
  · exact u_same (hS.2.2.1 _ hs rfl args) _ hi
theorem a_get {idx ci k p : Nat} {r : vw_C × (Nat → FieldType)} {v : Value} (hC : look C pc = some (.getfield idx, np, tgt, w)) (hf : LF C.1.cls idx ci k r) (hK : h.1 p = (1, ci)) (hv : ∀ G : aG, fv G h.2.1 h.2.2.2.1 p (r.2 k) k = mv G v) (kk : AW S C d Q X k1 k2 np ls (v :: st) h) : AW S C d Q X k1 k2 pc ls (.ref p :: st) h := by
  intro p' l e s m args below meth c H la locs cells slots mc ms G CC hS hL hR hF h1 h2
  obtain ⟨hd, rfl, -⟩ := okd CC.2.2.2.2.2.2.2.2.2 hC rfl
  obtain ⟨ref, cf, kf, fi, f, hl, hi, -, hst, hsl⟩ := lf_use (args := args) hf hS
  obtain ⟨r', hr', cell, q1, q2, q3, q4⟩ := hR.ob hK
  cases hf.1.symm.trans hr'
  refine W.getf CC.1 CC.2.1 CC.2.2.2.2.2.1 hl hi hst q1 (by rw [q3]; exact fun z => by cases z) (v := mv G v) (by rw [hsl, q4 k hf.2.2.1, hv]) rfl rfl hd ?_
  exact kk p' l e s m args below meth c H la locs cells slots mc ms G CC hS hL hR hF h1 h2
theorem a_geti {idx ci k p : Nat} (hC : look C pc = some (.getfield idx, np, tgt, w)) (hf : LFi C.1.cls idx ci k) (hK : K p = (1, ci)) (kk : AW S C d Q X k1 k2 np ls (.int (I p k) :: st) (K, I, L, R, t)) : AW S C d Q X k1 k2 pc ls (.ref p :: st) (K, I, L, R, t) := by
  obtain ⟨r, hf, ht⟩ := hf
  exact a_get hC hf hK (fun G => fv_int ht) kk
theorem a_getr {idx ci k p : Nat} (hC : look C pc = some (.getfield idx, np, tgt, w)) (hf : LFr C.1.cls idx ci k) (hK : K p = (1, ci)) (kk : AW S C d Q X k1 k2 np ls (rv (R p k) :: st) (K, I, L, R, t)) : AW S C d Q X k1 k2 pc ls (.ref p :: st) (K, I, L, R, t) := by
  obtain ⟨r, hf, ht⟩ := hf
  exact a_get hC hf hK (fun G => fv_ref ht) kk
theorem a_getq {idx ci k p q : Nat} (hC : look C pc = some (.getfield idx, np, tgt, w)) (hf : LFr C.1.cls idx ci k) (hK : K p = (1, ci)) (hq : R p k = q + 1) (kk : AW S C d Q X k1 k2 np ls (.ref q :: st) (K, I, L, R, t)) : AW S C d Q X k1 k2 pc ls (.ref p :: st) (K, I, L, R, t) := by
  refine a_getr hC hf hK ?_
  rw [hq]
  exact kk
/-- a field is written: not final, or in the class's own constructor -/
theorem a_put {idx ci k p : Nat} {r : vw_C × (Nat → FieldType)} {v : Value} {I' : Nat → Nat → Int32} {R' : Nat → Nat → Nat} (hC : look C pc = some (.putfield idx, np, tgt, w)) (hf : LF C.1.cls idx ci k r) (hfin : (r.1.2.1 k).2.2.2 = false ∨ ((r.1.2.1 k).2.2.2 = true ∧ C.1.name = "<init>" ∧ (r.1.2.1 k).1 = C.1.cls)) (hK : K p = (1, ci)) (hn : ∀ G : aG, narrow (r.2 k) (mv G v) = mv G v) (hfit : ∀ G : aG, fits (r.2 k) (mv G v) = true)
    (hI : ∀ q, q ≠ p → I' q = I q) (hR' : ∀ q, q ≠ p → R' q = R q) (hj : ∀ j, j ≠ k → I' p j = I p j ∧ R' p j = R p j) (hv : ∀ G : aG, fv G I' R' p (r.2 k) k = mv G v)
    (kk : AW S C d Q X k1 k2 np ls st (K, I', L, R', t)) : AW S C d Q X k1 k2 pc ls (v :: .ref p :: st) (K, I, L, R, t) := by
  intro p' l e s m args below meth c H la locs cells slots mc ms G CC hS hL hR hF h1 h2
  obtain ⟨hd, rfl, -⟩ := okd CC.2.2.2.2.2.2.2.2.2 hC rfl
  obtain ⟨ref, cf, kf, fi, f, hl, hi, hi0, hst, hsl⟩ := lf_use (args := args) hf hS
  obtain ⟨r', hr', cell, q1, q2, q3, q4⟩ := hR.ob hK
  cases hf.1.symm.trans hr'
  have hp : 200 ≤ p := hR.2.1 p (by show (K p).1 ≠ 0; rw [hK]; simp)
  obtain ⟨hSl, hfc, kC, hkC, hkind⟩ := hS.1 ci r hf.1
  have hts : ∀ w ∈ u_ws r.1.1 r.1.2.1 r.1.2.2, w.before args s = true := fun w hw => hS.2.2.1 w (hf.2.1.1 w hw).1 (by rw [(hf.2.1.1 w hw).2]; rfl) args
  have hlay := u_lays hts (fun w hw => hw) hf.2.2.1
  have hd0 := hf.2.1.2.2 k hf.2.2.1
  have hap : ∀ a b, a < r.1.2.2 → b < r.1.2.2 → a ≠ b → G.1.2 ci a ≠ G.1.2 ci b := by
    intro a b ha hb hne
    obtain ⟨_, _, _, fa, hia, ea⟩ := hSl a ha
    obtain ⟨_, _, _, fb, hib, eb⟩ := hSl b hb
    rw [← ea, ← eb]
    refine u_apart (u_lays hts (fun w hw => hw) ha) (u_lays hts (fun w hw => hw) hb) hia hib ?_
    rw [(State.fieldFound?_type hia (hf.2.1.2.2 a ha)).1, (State.fieldFound?_type hib (hf.2.1.2.2 b hb)).1]
    exact hf.2.1.2.1 a ha b hb hne
  have fin : ∀ H' : Heap, H'[ad G p]? = some (cell.setSlot f.slot (mv G v)) → H'.size = H.size → (∀ q, q ≠ ad G p → H'[q]? = H[q]?) → Rep G (K, I', L, R', t) H' ∧ va_S (aA G) s.heap H' (locs ++ [⟨ad G p, f.slot⟩]) := by
    intro H' e1 e2 e3
    refine ⟨Rep.set hR hp hI (fun _ _ => rfl) hR' e2 e3 ?_, hF.put e2 e3 (aA_ad hp)⟩
    show cellA G (K, I', L, R', t) H' p
    unfold cellA
    dsimp only
    rw [hK]
    refine ⟨r, hf.1, _, e1, q2, q3, fun j hjn => ?_⟩
    rw [hsl]
    by_cases hjk : j = k
    · subst hjk
      rw [Cell.slots_setSlot_self _ (k2_hasslot (q4 j hjn)), hv]
    · rw [slot_ne _ _ (hap k j hf.2.2.1 hjn (Ne.symm hjk)), q4 j hjn]
      obtain ⟨z1, z2⟩ := hj j hjk
      show some (fv G I R p (r.2 j) j) = some (fv G I' R' p (r.2 j) j)
      cases r.2 j <;> simp [fv, z1, z2]
  have hlt : f.slot < cell.slots.size := by rw [hsl]; exact k2_hasslot (q4 k hf.2.2.1)
  have done : ∀ H' : Heap, H'[ad G p]? = some (cell.setSlot f.slot (mv G v)) → H'.size = H.size → (∀ q, q ≠ ad G p → H'[q]? = H[q]?) → W p' l e (rmD d mc ms) s m args below meth c H' (locs ++ [⟨ad G p, f.slot⟩]) cells slots (vx_MQ below (QcM G Q) (XcM G X) args s mc ms (aA G)) (F0 m (pc + 3) la (st.map (mv G))) := by
    intro H' e1 e2 e3
    obtain ⟨z1, z2⟩ := fin H' e1 e2 e3
    exact kk p' l e s m args below meth c H' la _ cells slots mc ms G CC hS hL z1 z2 h1 h2
  rcases hfin with hfin | ⟨hfin, hin, hdecl⟩
  · have hlay' := hts _ (u_in_lay hf.2.2.1)
    unfold u_lay at hlay'
    rw [if_neg (by rw [hfin]; decide)] at hlay'
    have h6 := u_store hfc hkC hkind hlay' hi0 hd0 (hn G) (hfit G)
    exact W.putK CC.1 CC.2.1 (f := f) ⟨CC.2.2.2.2.2.1, hl, ⟨_, _, _, hi⟩, hst⟩ (by rw [q2]; exact h6) q1 q3 hlt rfl rfl hd done
  · have hcf : m.cls = cf := by
      have h8 := hts _ (u_in_lay hf.2.2.1)
      unfold u_lay at h8
      rw [if_pos hfin] at h8
      obtain ⟨_, _, c', _, _, _, -, -, hf', -, -, -, hown2, -⟩ := Cond.laysFinal_spec h8
      have e1 : c' = cf := by have := hi0.symm.trans hf'; simp at this; exact this.1.symm
      rw [hdecl] at hown2
      rw [← e1]; exact Option.some.inj (CC.2.2.2.2.2.1.symm.trans hown2)
    exact W.putFinK CC.1 CC.2.1 CC.2.2.2.2.2.1 hl hi hst hcf (CC.2.2.2.2.2.2.1.trans hin) (by rw [q2]; exact u_fits hfc hkC hkind hlay hi0 hd0 (hn G) (hfit G)) q1 q3 hlt rfl rfl hd done
end A6
end
section
/-! ===== the rules of AW: fields by kind, arrays, answers ===== -/
theorem nar_ref {ty : FieldType} (h : isRefTy ty = true) (v : Value) (hv : v = .null ∨ ∃ a, v = .ref a) : narrow ty v = v ∧ fits ty v = true := by
  rcases hv with rfl | ⟨a, rfl⟩ <;> cases ty <;> first | (cases h; done) | exact ⟨rfl, rfl⟩
theorem mv_rv_or (G : aG) (r : Nat) : mv G (rv r) = .null ∨ ∃ a, mv G (rv r) = .ref a := by cases r <;> first | exact Or.inl rfl | exact Or.inr ⟨_, rfl⟩
section A7
variable {S : aS} {C : aM} {d : Nat} {Q : Option Value → aH → Prop} {X : String → aH → Prop} {k1 k2 pc np tgt : Nat} {w : Int32} {ls ls' : List (Option Value)} {st st' : List Value} {h : aH} {ins : Instr}
variable {K : Nat → Nat × Nat} {I : Nat → Nat → Int32} {L : Nat → Nat → Int64} {R : Nat → Nat → Nat} {t : Nat}
theorem a_puti {idx ci k p : Nat} {x : Int32} (hC : look C pc = some (.putfield idx, np, tgt, w)) (hf : LPi C.1.cls C.1.name idx ci k) (hK : K p = (1, ci)) (kk : AW S C d Q X k1 k2 np ls st (K, up2 I p k x, L, R, t)) : AW S C d Q X k1 k2 pc ls (.int x :: .ref p :: st) (K, I, L, R, t) := by
  obtain ⟨r, ⟨hf, hfin⟩, ht⟩ := hf
  refine a_put hC hf hfin hK (fun G => ?_) (fun G => ?_) (fun q hq => up2_row hq) (fun _ _ => rfl) (fun j hj => ⟨up2_ne (Or.inr hj), rfl⟩) (fun G => ?_) kk
  · rw [ht]; rfl
  · rw [ht]; rfl
  · rw [ht]; show Value.int (up2 I p k x p k) = _; rw [up2_at]; rfl
theorem a_putz {idx ci k p : Nat} {x : Int32} (hC : look C pc = some (.putfield idx, np, tgt, w)) (hf : LPz C.1.cls C.1.name idx ci k) (hx : narrow .boolean (.int x) = .int x ∧ fits .boolean (.int x) = true) (hK : K p = (1, ci)) (kk : AW S C d Q X k1 k2 np ls st (K, up2 I p k x, L, R, t)) : AW S C d Q X k1 k2 pc ls (.int x :: .ref p :: st) (K, I, L, R, t) := by
  obtain ⟨r, ⟨hf, hfin⟩, ht⟩ := hf
  refine a_put hC hf hfin hK (fun G => ?_) (fun G => ?_) (fun q hq => up2_row hq) (fun _ _ => rfl) (fun j hj => ⟨up2_ne (Or.inr hj), rfl⟩) (fun G => ?_) kk
  · rw [ht]; exact hx.1
  · rw [ht]; exact hx.2
  · rw [ht]; show Value.int (up2 I p k x p k) = _; rw [up2_at]; rfl
theorem a_putr {idx ci k p q : Nat} (hC : look C pc = some (.putfield idx, np, tgt, w)) (hf : LPr C.1.cls C.1.name idx ci k) (hK : K p = (1, ci)) (kk : AW S C d Q X k1 k2 np ls st (K, I, L, up2 R p k q, t)) : AW S C d Q X k1 k2 pc ls (rv q :: .ref p :: st) (K, I, L, R, t) := by
  obtain ⟨r, ⟨hf, hfin⟩, ht⟩ := hf
  refine a_put hC hf hfin hK (fun G => (nar_ref ht _ (mv_rv_or G q)).1) (fun G => (nar_ref ht _ (mv_rv_or G q)).2) (fun _ _ => rfl) (fun q hq => up2_row hq) (fun j hj => ⟨rfl, up2_ne (Or.inr hj)⟩) (fun G => ?_) kk
  rw [fv_ref ht, up2_at]
theorem a_putq {idx ci k p q : Nat} (hC : look C pc = some (.putfield idx, np, tgt, w)) (hf : LPr C.1.cls C.1.name idx ci k) (hK : K p = (1, ci)) (kk : AW S C d Q X k1 k2 np ls st (K, I, L, up2 R p k (q + 1), t)) : AW S C d Q X k1 k2 pc ls (.ref q :: .ref p :: st) (K, I, L, R, t) := a_putr (q := q + 1) hC hf hK kk
/-! arrays -/
theorem arrV_kn (c : ClassId) (n : Nat) (f : Nat → Value) : (arrV c n f).vm ≠ .unknown := by
  unfold arrV
  simp
theorem arrV_ks (c : ClassId) (n : Nat) (f : Nat → Value) : ∀ q, (arrV c n f).vm ≠ .statics q := by
  intro q
  unfold arrV
  simp
def inI (i : Int32) (n : Nat) : Prop := ¬ i < 0 ∧ i.toNatClampNeg < n
theorem inI_not {i : Int32} {n : Nat} (h : inI i n) : ¬ (i < 0 ∨ n ≤ i.toNatClampNeg) := by
  rintro (q | q)
  · exact h.1 q
  · have := h.2
    omega
theorem a_len {p n tt : Nat} {x : Int32} (hC : look C pc = some (.arraylength, np, tgt, w)) (hK : K p = (tt + 2, n)) (htt : Nat.blt tt 4 = true) (hx : nI n = x) (kk : AW S C d Q X k1 k2 np ls (.int x :: st) (K, I, L, R, t)) : AW S C d Q X k1 k2 pc ls (.ref p :: st) (K, I, L, R, t) := by
  intro p' l e s m args below meth c H la locs cells slots mc ms G CC hS hL hR hF h1 h2
  obtain ⟨hd, rfl, -⟩ := okd CC.2.2.2.2.2.2.2.2.2 hC rfl
  have hA := hR.ar hK
  refine W.alen CC.1 CC.2.1 hA ((hS.2.1 tt (Nat.le_of_ble_eq_true htt)).1 _ _) (n := x) ?_ rfl rfl hd ?_
  · rw [arrV_size, ← hx]
    rfl
  · exact kk p' l e s m args below meth c H la locs cells slots mc ms G CC hS hL hR hF h1 h2
theorem a_iald {p n : Nat} {i : Int32} (hC : look C pc = some (.iaload, np, tgt, w)) (hK : K p = (2, n)) (hi : inI i n) (kk : AW S C d Q X k1 k2 np ls (.int (I p i.toNatClampNeg) :: st) (K, I, L, R, t)) : AW S C d Q X k1 k2 pc ls (.int i :: .ref p :: st) (K, I, L, R, t) := by
  intro p' l e s m args below meth c H la locs cells slots mc ms G CC hS hL hR hF h1 h2
  obtain ⟨hd, rfl, -⟩ := okd CC.2.2.2.2.2.2.2.2.2 hC rfl
  have hA := hR.ar (t := 0) hK
  exact W.iald CC.1 CC.2.1 hA ((hS.2.1 0 (by decide)).1 _ _) (arrV_kn _ _ _) (by rw [arrV_size]; exact inI_not hi) (arrV_read _ _ hi.2) rfl rfl hd (kk p' l e s m args below meth c H la locs cells slots mc ms G CC hS hL hR hF h1 h2)
theorem a_bald {p n : Nat} {i : Int32} (hC : look C pc = some (.baload, np, tgt, w)) (hK : K p = (3, n)) (hi : inI i n) (kk : AW S C d Q X k1 k2 np ls (.int (I p i.toNatClampNeg) :: st) (K, I, L, R, t)) : AW S C d Q X k1 k2 pc ls (.int i :: .ref p :: st) (K, I, L, R, t) := by
  intro p' l e s m args below meth c H la locs cells slots mc ms G CC hS hL hR hF h1 h2
  obtain ⟨hd, rfl, -⟩ := okd CC.2.2.2.2.2.2.2.2.2 hC rfl
  have hA := hR.ar (t := 1) hK
  exact W.bald CC.1 CC.2.1 hA ((hS.2.1 1 (by decide)).1 _ _) (arrV_kn _ _ _) (by rw [arrV_size]; exact inI_not hi) (arrV_read _ _ hi.2) rfl rfl hd (kk p' l e s m args below meth c H la locs cells slots mc ms G CC hS hL hR hF h1 h2)
theorem a_lald {p n : Nat} {i : Int32} (hC : look C pc = some (.laload, np, tgt, w)) (hK : K p = (4, n)) (hi : inI i n) (kk : AW S C d Q X k1 k2 np ls (.long (L p i.toNatClampNeg) :: st) (K, I, L, R, t)) : AW S C d Q X k1 k2 pc ls (.int i :: .ref p :: st) (K, I, L, R, t) := by
  intro p' l e s m args below meth c H la locs cells slots mc ms G CC hS hL hR hF h1 h2
  obtain ⟨hd, rfl, -⟩ := okd CC.2.2.2.2.2.2.2.2.2 hC rfl
  have hA := hR.ar (t := 2) hK
  exact W.lald CC.1 CC.2.1 hA ((hS.2.1 2 (by decide)).1 _ _) (arrV_kn _ _ _) (by rw [arrV_size]; exact inI_not hi) (arrV_read _ _ hi.2) rfl rfl hd (kk p' l e s m args below meth c H la locs cells slots mc ms G CC hS hL hR hF h1 h2)
theorem a_aald {p n q : Nat} {i : Int32} (hC : look C pc = some (.aaload, np, tgt, w)) (hK : K p = (5, n)) (hi : inI i n) (hq : R p i.toNatClampNeg = q) (kk : AW S C d Q X k1 k2 np ls (rv q :: st) (K, I, L, R, t)) : AW S C d Q X k1 k2 pc ls (.int i :: .ref p :: st) (K, I, L, R, t) := by
  intro p' l e s m args below meth c H la locs cells slots mc ms G CC hS hL hR hF h1 h2
  obtain ⟨hd, rfl, -⟩ := okd CC.2.2.2.2.2.2.2.2.2 hC rfl
  have hA := hR.ar (t := 3) hK
  refine W.aald CC.1 CC.2.1 hA ((hS.2.1 3 (by decide)).1 _ _) rfl (arrV_kn _ _ _) (by rw [arrV_size]; exact inI_not hi) (arrV_read _ _ hi.2) rfl rfl hd ?_
  show W p' l e _ s m args below meth c H locs cells slots _ (F0 m (pc + 1) la (mv G (rv (R p i.toNatClampNeg)) :: st.map (mv G)))
  rw [hq]
  exact kk p' l e s m args below meth c H la locs cells slots mc ms G CC hS hL hR hF h1 h2
theorem updV_ev2 {G : aG} {I : Nat → Nat → Int32} {L : Nat → Nat → Int64} {R : Nat → Nat → Nat} {p k : Nat} {x : Int32} : updV (fun j => ev G I L R 2 p j) k (.int x) = fun j => ev G (up2 I p k x) L R 2 p j := by
  funext j
  by_cases h : j = k
  · subst h; simp [updV, ev, up2]
  · simp [updV, ev, up2, h]
theorem updV_ev3 {G : aG} {I : Nat → Nat → Int32} {L : Nat → Nat → Int64} {R : Nat → Nat → Nat} {p k : Nat} {x : Int32} : updV (fun j => ev G I L R 3 p j) k (.int x) = fun j => ev G (up2 I p k x) L R 3 p j := by
  funext j
  by_cases h : j = k
  · subst h; simp [updV, ev, up2]
  · simp [updV, ev, up2, h]
theorem updV_ev4 {G : aG} {I : Nat → Nat → Int32} {L : Nat → Nat → Int64} {R : Nat → Nat → Nat} {p k : Nat} {x : Int64} : updV (fun j => ev G I L R 4 p j) k (.long x) = fun j => ev G I (up2 L p k x) R 4 p j := by
  funext j
  by_cases h : j = k
  · subst h; simp [updV, ev, up2]
  · simp [updV, ev, up2, h]
theorem updV_ev5 {G : aG} {I : Nat → Nat → Int32} {L : Nat → Nat → Int64} {R : Nat → Nat → Nat} {p k q : Nat} : updV (fun j => ev G I L R 5 p j) k (mv G (rv q)) = fun j => ev G I L (up2 R p k q) 5 p j := by
  funext j
  by_cases h : j = k
  · subst h; simp [updV, ev, up2]
  · simp [updV, ev, up2, h]
theorem a_iast {p n : Nat} {i x : Int32} (hC : look C pc = some (.iastore, np, tgt, w)) (hK : K p = (2, n)) (hi : inI i n) (kk : AW S C d Q X k1 k2 np ls st (K, up2 I p i.toNatClampNeg x, L, R, t)) : AW S C d Q X k1 k2 pc ls (.int x :: .int i :: .ref p :: st) (K, I, L, R, t) := by
  intro p' l e s m args below meth c H la locs cells slots mc ms G CC hS hL hR hF h1 h2
  obtain ⟨hd, rfl, -⟩ := okd CC.2.2.2.2.2.2.2.2.2 hC rfl
  have hA := hR.ar (t := 0) hK
  have hp : 200 ≤ p := hR.2.1 p (by show (K p).1 ≠ 0; rw [hK]; simp)
  refine W.iast CC.1 CC.2.1 hA ((hS.2.1 0 (by decide)).1 _ _) (arrV_kn _ _ _) (by rw [arrV_size]; exact inI_not hi) rfl rfl hd (fun H' e1 e2 e3 => ?_)
  refine kk p' l e s m args below meth c H' la _ cells slots mc ms G CC hS hL (Rep.set hR hp (fun q hq => up2_row hq) (fun _ _ => rfl) (fun _ _ => rfl) e2 e3 ?_) (hF.put e2 e3 (aA_ad hp)) h1 h2
  show cellA G (K, up2 I p i.toNatClampNeg x, L, R, t) H' p
  unfold cellA
  dsimp only
  rw [hK]
  show H'[ad G p]? = some (arrV _ n _)
  rw [e1, arrV_store, updV_ev2]
theorem a_bast {p n : Nat} {i x : Int32} (hC : look C pc = some (.bastore, np, tgt, w)) (hK : K p = (3, n)) (hi : inI i n) (hx : x.toInt8.toInt32 = x) (kk : AW S C d Q X k1 k2 np ls st (K, up2 I p i.toNatClampNeg x, L, R, t)) : AW S C d Q X k1 k2 pc ls (.int x :: .int i :: .ref p :: st) (K, I, L, R, t) := by
  intro p' l e s m args below meth c H la locs cells slots mc ms G CC hS hL hR hF h1 h2
  obtain ⟨hd, rfl, -⟩ := okd CC.2.2.2.2.2.2.2.2.2 hC rfl
  have hA := hR.ar (t := 1) hK
  have hp : 200 ≤ p := hR.2.1 p (by show (K p).1 ≠ 0; rw [hK]; simp)
  have hnx : narrow .byte (.int x) = .int x := by show Value.int x.toInt8.toInt32 = _; rw [hx]
  refine W.bast CC.1 CC.2.1 hA ((hS.2.1 1 (by decide)).1 _ _) (arrV_kn _ _ _) (by rw [arrV_size]; exact inI_not hi) rfl rfl hd (fun H' e1 e2 e3 => ?_)
  refine kk p' l e s m args below meth c H' la _ cells slots mc ms G CC hS hL (Rep.set hR hp (fun q hq => up2_row hq) (fun _ _ => rfl) (fun _ _ => rfl) e2 e3 ?_) (hF.put e2 e3 (aA_ad hp)) h1 h2
  show cellA G (K, up2 I p i.toNatClampNeg x, L, R, t) H' p
  unfold cellA
  dsimp only
  rw [hK]
  show H'[ad G p]? = some (arrV _ n _)
  rw [e1, hnx, arrV_store, updV_ev3]
theorem a_last {p n : Nat} {i : Int32} {x : Int64} (hC : look C pc = some (.lastore, np, tgt, w)) (hK : K p = (4, n)) (hi : inI i n) (kk : AW S C d Q X k1 k2 np ls st (K, I, up2 L p i.toNatClampNeg x, R, t)) : AW S C d Q X k1 k2 pc ls (.long x :: .int i :: .ref p :: st) (K, I, L, R, t) := by
  intro p' l e s m args below meth c H la locs cells slots mc ms G CC hS hL hR hF h1 h2
  obtain ⟨hd, rfl, -⟩ := okd CC.2.2.2.2.2.2.2.2.2 hC rfl
  have hA := hR.ar (t := 2) hK
  have hp : 200 ≤ p := hR.2.1 p (by show (K p).1 ≠ 0; rw [hK]; simp)
  refine W.last CC.1 CC.2.1 hA ((hS.2.1 2 (by decide)).1 _ _) (arrV_kn _ _ _) (by rw [arrV_size]; exact inI_not hi) rfl rfl hd (fun H' e1 e2 e3 => ?_)
  refine kk p' l e s m args below meth c H' la _ cells slots mc ms G CC hS hL (Rep.set hR hp (fun _ _ => rfl) (fun q hq => up2_row hq) (fun _ _ => rfl) e2 e3 ?_) (hF.put e2 e3 (aA_ad hp)) h1 h2
  show cellA G (K, I, up2 L p i.toNatClampNeg x, R, t) H' p
  unfold cellA
  dsimp only
  rw [hK]
  show H'[ad G p]? = some (arrV _ n _)
  rw [e1, arrV_store, updV_ev4]
/-- an array of streets takes a street -/
theorem a_aast {p n q : Nat} {i : Int32} (hC : look C pc = some (.aastore, np, tgt, w)) (hK : K p = (5, n)) (hKq : K q = (1, 5)) (hi : inI i n) (kk : AW S C d Q X k1 k2 np ls st (K, I, L, up2 R p i.toNatClampNeg (q + 1), t)) : AW S C d Q X k1 k2 pc ls (.ref q :: .int i :: .ref p :: st) (K, I, L, R, t) := by
  intro p' l e s m args below meth c H la locs cells slots mc ms G CC hS hL hR hF h1 h2
  obtain ⟨hd, rfl, -⟩ := okd CC.2.2.2.2.2.2.2.2.2 hC rfl
  have hA := hR.ar (t := 3) hK
  have hp : 200 ≤ p := hR.2.1 p (by show (K p).1 ≠ 0; rw [hK]; simp)
  obtain ⟨r, hr, cell, q1, q2, q3, q4⟩ := hR.ob hKq
  obtain ⟨-, hfc, kC, hkC, -⟩ := hS.1 5 r hr
  obtain ⟨kA, comp, a1, a2, a3, a4⟩ := (hS.2.1 3 (by decide)).2
  have hcc : comp = G.1.1 5 := by
    cases hr
    exact Option.some.inj (a3.symm.trans hfc)
  subst hcc
  refine W.aast CC.1 CC.2.1 hA (arrV_ks _ _ _) (arrV_kn _ _ _) a1 a2 rfl hkC ⟨hi.1, by rw [arrV_size]; exact hi.2⟩ q1 (fun z => by rw [q3]; simp) (by rw [q2]; exact hkC) (by rw [q2]; exact va_asg _ _) rfl rfl hd (fun H' e1 e2 e3 => ?_)
  refine kk p' l e s m args below meth c H' la _ cells slots mc ms G CC hS hL (Rep.set hR hp (fun _ _ => rfl) (fun _ _ => rfl) (fun q hq => up2_row hq) e2 e3 ?_) (hF.put e2 e3 (aA_ad hp)) h1 h2
  show cellA G (K, I, L, up2 R p i.toNatClampNeg (q + 1), t) H' p
  unfold cellA
  dsimp only
  rw [hK]
  show H'[ad G p]? = some (arrV _ n _)
  rw [e1, arrV_store, ← updV_ev5]
  rfl
/-! answers -/
theorem a_iret {x : Int32} (hC : look C pc = some (.ireturn, np, tgt, w)) (hr : C.2.2.2.1 = some .int) (hQ : Q (some (.int x)) h) : AW S C d Q X k1 k2 pc ls [.int x] h := by
  intro p' l e s m args below meth c H la locs cells slots mc ms G CC hS hL hR hF h1 h2
  obtain ⟨hd, rfl, -⟩ := okd CC.2.2.2.2.2.2.2.2.2 hC rfl
  have hlk := CC.2.2.2.1
  refine vx_ret (W.widen (k := mc) (n := ms) (by omega) (by omega) (W.iret CC.1 CC.2.1 (CC.2.2.1.trans hr) (fun t ht hW => ⟨some (.int x), h, rfl, hQ, by rw [ht]; exact hR, hF.F ht⟩) hF.2.2 hd hlk))
theorem a_zret {x : Int32} (hC : look C pc = some (.ireturn, np, tgt, w)) (hr : C.2.2.2.1 = some .boolean) (hx : narrow .boolean (.int x) = .int x) (hQ : Q (some (.int x)) h) : AW S C d Q X k1 k2 pc ls [.int x] h := by
  intro p' l e s m args below meth c H la locs cells slots mc ms G CC hS hL hR hF h1 h2
  obtain ⟨hd, rfl, -⟩ := okd CC.2.2.2.2.2.2.2.2.2 hC rfl
  have hlk := CC.2.2.2.1
  refine vx_ret (W.widen (k := mc) (n := ms) (by omega) (by omega) (W.zret CC.1 CC.2.1 (CC.2.2.1.trans hr) hx (fun t ht hW => ⟨some (.int x), h, rfl, hQ, by rw [ht]; exact hR, hF.F ht⟩) hF.2.2 hd hlk))
theorem a_cret {x : Int32} (hC : look C pc = some (.ireturn, np, tgt, w)) (hr : C.2.2.2.1 = some .char) (hx : narrow .char (.int x) = .int x) (hQ : Q (some (.int x)) h) : AW S C d Q X k1 k2 pc ls [.int x] h := by
  intro p' l e s m args below meth c H la locs cells slots mc ms G CC hS hL hR hF h1 h2
  obtain ⟨hd, rfl, -⟩ := okd CC.2.2.2.2.2.2.2.2.2 hC rfl
  have hlk := CC.2.2.2.1
  refine vx_ret (W.widen (k := mc) (n := ms) (by omega) (by omega) (W.zret CC.1 CC.2.1 (CC.2.2.1.trans hr) hx (fun t ht hW => ⟨some (.int x), h, rfl, hQ, by rw [ht]; exact hR, hF.F ht⟩) hF.2.2 hd hlk))
theorem a_lret {x : Int64} (hC : look C pc = some (.lreturn, np, tgt, w)) (hr : C.2.2.2.1 = some .long) (hQ : Q (some (.long x)) h) : AW S C d Q X k1 k2 pc ls [.long x] h := by
  intro p' l e s m args below meth c H la locs cells slots mc ms G CC hS hL hR hF h1 h2
  obtain ⟨hd, rfl, -⟩ := okd CC.2.2.2.2.2.2.2.2.2 hC rfl
  have hlk := CC.2.2.2.1
  refine vx_ret (W.widen (k := mc) (n := ms) (by omega) (by omega) (W.lret CC.1 CC.2.1 (CC.2.2.1.trans hr) (fun t ht hW => ⟨some (.long x), h, rfl, hQ, by rw [ht]; exact hR, hF.F ht⟩) hF.2.2 hd hlk))
theorem a_vret (hC : look C pc = some (.return_, np, tgt, w)) (hr : C.2.2.2.1 = none) (hQ : Q none h) : AW S C d Q X k1 k2 pc ls [] h := by
  intro p' l e s m args below meth c H la locs cells slots mc ms G CC hS hL hR hF h1 h2
  obtain ⟨hd, rfl, -⟩ := okd CC.2.2.2.2.2.2.2.2.2 hC rfl
  have hlk := CC.2.2.2.1
  refine vx_ret (W.widen (k := mc) (n := ms) (by omega) (by omega) (W.vret CC.1 CC.2.1 (CC.2.2.1.trans hr) (fun t ht hW => ⟨none, h, rfl, hQ, by rw [ht]; exact hR, hF.F ht⟩) hF.2.2 hd hlk))
theorem a_aret {q : Nat} {rt : FieldType} (hC : look C pc = some (.areturn, np, tgt, w)) (hr : C.2.2.2.1 = some rt) (hrt : isRefTy rt = true) (hQ : Q (some (rv q)) h) : AW S C d Q X k1 k2 pc ls [rv q] h := by
  intro p' l e s m args below meth c H la locs cells slots mc ms G CC hS hL hR hF h1 h2
  obtain ⟨hd, rfl, -⟩ := okd CC.2.2.2.2.2.2.2.2.2 hC rfl
  have hlk := CC.2.2.2.1
  refine vx_ret (W.widen (k := mc) (n := ms) (by omega) (by omega) (W.aret CC.1 CC.2.1 (CC.2.2.1.trans hr) ?_ (mv_rv_or G q) (fun t ht hW => ⟨some (rv q), h, rfl, hQ, by rw [ht]; exact hR, hF.F ht⟩) hF.2.2 hd hlk))
  cases rt <;> first | (cases hrt; done) | exact Or.inl ⟨_, rfl⟩ | exact Or.inr ⟨_, rfl⟩
end A7
end
section
/-! ===== the rules of AW: a method's contract, calls ===== -/
theorem Rep.frames {G : aG} {h : aH} {U : State} (a : Array Value) (g : JFrame) (mk : MethodId) (hR : Rep G h U.heap) : Rep G h (U.calling g mk a).heap := hR
theorem SW.frames {S : aS} {G : aG} {U : State} (a : Array Value) (g : JFrame) (mk : MethodId) (h : SW S G U) : SW S G (U.calling g mk a) := SW.go (U := U.calling g mk a) (State.WarmedH.refl U) (fun _ _ _ => rfl) h
theorem PcM.blind {S : aS} {G : aG} {args : List Value} {h : aH} : FrameBlind (PcM S G args h) := fun a U g mk q => ⟨q.1, Rep.frames a g mk q.2.1, SW.frames a g mk q.2.2⟩
def entL (args : List Value) (n : Nat) : List (Option Value) := args.map some ++ List.replicate (n - args.length) none
theorem lg_app {l r : List (Option Value)} {i : Nat} {v : Value} (h : lg (l ++ r) i = some v) (hr : ∀ j, lg r j = none) : lg l i = some v := by
  induction l generalizing i with
  | nil => rw [List.nil_append, hr] at h; cases h
  | cons a l ih =>
    rcases i with _ | i
    · exact h
    · exact ih h
theorem lg_none (n : Nat) : ∀ j, lg (List.replicate n (none : Option Value)) j = none := by
  induction n with
  | zero => intro j; rfl
  | succ n ih =>
    intro j
    rw [List.replicate_succ]
    rcases j with _ | j
    · rfl
    · exact ih j
theorem lg_args {G : aG} {args : List Value} (hc : ∀ v ∈ args, v.category = 1) {i n : Nat} {v : Value} (h : lg (args.map some) i = some v) : (n + i, mv G v) ∈ lv_args n (args.map (mv G)) := by
  induction args generalizing i n with
  | nil => simp [lg] at h
  | cons a r ih =>
    have h1 : (mv G a).category = 1 := (mv_cat G a).trans (hc a List.mem_cons_self)
    simp only [List.map_cons, lv_args]
    rw [if_neg (by omega)]
    rcases i with _ | i
    · simp only [List.map_cons, lg] at h
      cases h
      exact List.mem_cons_self
    · have := ih (fun v hv => hc v (List.mem_cons_of_mem _ hv)) (n := n + 1) h
      rw [show n + 1 + i = n + (i + 1) by omega] at this
      exact List.mem_cons_of_mem _ this
theorem sl_len {G : aG} {args : List Value} (hc : ∀ v ∈ args, v.category = 1) : (lg_sl (args.map (mv G))).length = args.length := by
  induction args with
  | nil => rfl
  | cons a r ih =>
    have h1 : ¬ (mv G a).category = 2 := by rw [mv_cat, hc a List.mem_cons_self]; decide
    have := ih (fun v hv => hc v (List.mem_cons_of_mem _ hv))
    unfold lg_sl at this ⊢
    rw [List.map_cons, List.flatMap_cons, if_neg h1]
    simp [this]
/-- THE CONTRACT OUT OF THE JUDGEMENT -/
theorem Sp_of {S : aS} {C : aM} {d k1 k2 : Nat} {args : List Value} {h : aH} {Q : Option Value → aH → Prop} {X : String → aH → Prop} (hO : okM C = true) (hc : args.all (fun v => v.category == 1) = true) (hn : Nat.ble args.length C.2.2.1 = true)
    (k : AW S C d Q X k1 k2 0 (entL args C.2.2.1) [] h) : Sp S C d k1 k2 args h Q X := by
  intro l G hl
  obtain ⟨hpl, hok⟩ : plainName C.1.cls = true ∧ C.2.2.2.2.2.all (fun r => r.all (okE C)) = true := by
    simpa [okM, Bool.and_eq_true] using hO
  have hc' : ∀ v ∈ args, v.category = 1 := fun v hv => by simpa using List.all_eq_true.mp hc v hv
  have hn' := Nat.le_of_ble_eq_true hn
  have body : ∀ (p : Program) (e : Env) (s : State) (m : MethodId) (av : Array Value) (below : List Frame) (meth : Method) (c : Code) (s₁ : State), BodyLoose p l C.1 (headSpec [mW C] (rmD d k1 k2)) C.2.1 C.2.2.1 C.2.2.2.1 e s m av below meth c s₁ → c.maxLocals = C.2.2.1 → c.exceptionTable.toList = tableOf C.2.2.2.2.1 → PcM S G args h av s →
      W p l e (headSpec [mW C] (rmD d k1 k2)).room s m av below meth c s.heap [] 0 0 (vx_MQ below (QcM G Q) (XcM G X) av s k1 k2 (aA G)) (entryFrame m av C.2.2.1) := by
    intro p e s m av below meth c s₁ B hml htab hP
    obtain ⟨rfl, hR, hS⟩ := hP
    rw [lg_entry_eq]
    have hl0 := lv_entry (args.map (mv G)) (n := C.2.2.1) (by rw [sl_len hc']; exact hn')
    refine k p l e s m _ below meth c s.heap _ [] 0 0 k1 k2 G ⟨B.exec, B.bytes, B.returns, B.notSynchronized, hml, findClass_of_methodNamed B.named, (name_of_methodNamed B.named B.method).1, hl, htab, okM_of hok⟩ hS ⟨hl0.1, hl0.2.1, fun i v hi => ?_⟩ hR va_S.rf (by omega) (by omega)
    have h1 := lg_app hi (lg_none _)
    have h2 := hl0.2.2 _ (lg_args (n := 0) hc' h1)
    simpa using h2
  by_cases hh : C.2.2.2.2.1 = []
  · refine vx_ofW (cc := C.2.1) (maxL := C.2.2.1) (ret := C.2.2.2.1) (ws' := []) hpl (by unfold mW; rw [hh]) ?_
    intro p e s m av below meth c s₁ B hml ht hP
    refine body p e s m av below meth c s₁ B hml ?_ hP
    rw [hh]
    exact List.eq_nil_iff_forall_not_mem.mpr ht
  · have hw : mW C = .codeWith C.1 C.2.1 C.2.2.1 C.2.2.2.1 C.2.2.2.2.1 := by
      unfold mW
      split
      · next z => exact absurd z hh
      · rfl
    refine vx_ofWH (cc := C.2.1) (maxL := C.2.2.1) (ret := C.2.2.2.1) (hh := C.2.2.2.2.1) (ws' := []) hpl (by rw [hw]) ?_
    intro p e s m av below meth c s₁ B hml hP
    exact body p e s m av below meth c s₁ B hml (vx_table (x := C.1) B (atoms_spec (ws := [mW C]) B.pre _ (by rw [hw]; exact List.mem_cons_self))) hP
theorem Sp.mono {S : aS} {C : aM} {d k1 k2 : Nat} {args : List Value} {h : aH} {Q Q' : Option Value → aH → Prop} {X X' : String → aH → Prop} (hs : Sp S C d k1 k2 args h Q X) (hQ : ∀ v h', Q v h' → Q' v h') (hX : ∀ E h', X E h' → X' E h') : Sp S C d k1 k2 args h Q' X' := by
  intro l G hl p e ha hc hk s m av below hf hP hK hp
  have := hs l G hl p e ha hc hk s m av below hf hP hK hp
  obtain ⟨k, o, h1, h2, h3, h4⟩ := this
  refine ⟨k, o, h1, h2, h3, ?_⟩
  rcases h4 with ⟨⟨v, h', e1, e2, e3⟩, hL⟩ | ⟨q, e1, E, ce, L, ⟨h', x1, x2⟩, hr⟩
  · exact Or.inl ⟨⟨v, h', e1, hQ _ _ e2, e3⟩, hL⟩
  · exact Or.inr ⟨q, e1, E, ce, L, ⟨h', hX _ _ x1, x2⟩, hr⟩
section A8
variable {p : Program} {l : Launch} {e : Env} {R : Room} {s : State} {m : MethodId} {args : Array Value} {below : List Frame} {meth : Method} {c : Code} {H : Heap} {locs : List Loc} {cells slots : Nat} {QW : State → Prop}
/-- behind a call -/
theorem go_run {G : aG} {Q' : Option Value → aH → Prop} {X' : String → aH → Prop} {j1 j2 pc : Nat} {la : Array Slot} {st0 rest : List Value} {a : Array Value}
    (hr : vx_Run p l e R s m args below meth c H locs cells slots j1 j2 (F0 m pc la st0) rest (QcM G Q' a) (XcM G X') (aA G)) (hF : va_S (aA G) s.heap H locs)
    (kr : ∀ v h' H' locs', Q' v h' → Rep G h' H' → va_S (aA G) s.heap H' locs' → W p l e R s m args below meth c H' locs' (cells + j1) (slots + j2) QW (F0 m (pc + 3) la ((Option.map (mv G) v).toList ++ rest)))
    (kx : ∀ E h' q ce H' locs', X' E h' → Rep G h' H' → va_S (aA G) s.heap H' locs' → H'[q]? = some ce → ce.vm = .none → s.vm.findClass E = some ce.cls → vx_W p l e R s m args below meth c H' locs' (cells + j1) (slots + j2) QW (F0 m pc la rest) q) :
    W p l e R s m args below meth c H locs cells slots QW (F0 m pc la st0) := by
  intro T hT X
  have keep : ∀ {st₀ t T' : State} {L : List Loc}, st₀.heap = H → T'.heap = t.heap → va_F (aA G) st₀ t → (∀ q ∈ L, aA G q.base) → va_S (aA G) s.heap T'.heap (locs ++ L) := by
    intro st₀ t T' L h0 e1 hf hL
    exact (vx_keep h0 e1 hF (fun _ _ z => z) (fun _ z => z) hL hf).2.2
  rcases hr T hT X with ⟨v, st₀, t, T', L, h0, X', hL, e1, e2, ⟨v', h', q1, q2, q3, q4⟩, st⟩ | ⟨q, st₀, t, T', L, E, ce, h0, X', hL, e1, e2, ⟨h', q2, q3, q4⟩, hce, hcv, hcl, st⟩
  · cases q1
    obtain ⟨t2, a1, b1⟩ := kr v' h' T'.heap (locs ++ L) q2 (by rw [e1]; exact q3) (keep h0 e1 q4 hL) T' rfl X'
    exact ⟨t2, st t2 a1, b1⟩
  · obtain ⟨t2, a1, b1⟩ := kx E h' q ce T'.heap (locs ++ L) q2 (by rw [e1]; exact q3) (keep h0 e1 q4 hL) (by rw [e1]; exact hce) hcv hcl T' rfl X'
    exact ⟨t2, st.trans a1, b1⟩
end A8
/-- the good words of the tables -/
def gT : List Cond := lw_tbl.filter goodWord
theorem gT_ok {S : aS} {G : aG} {s : State} {args : Array Value} (hS : SW S G s) : ∀ w ∈ gT, w.before args s = true := fun w hw => by
  obtain ⟨h1, h2⟩ := List.mem_filter.mp hw
  exact hS.2.2.1 w h1 (by rw [h2]; rfl) args
theorem inT_gT {w : Cond} (h : inT w) : w ∈ gT := List.mem_filter.mpr h
theorem good_gT {ws : List Cond} (h : ∀ w ∈ ws, inT w) : GoodIn gT ws := fun w hw => ⟨inT_gT (h w hw), good_of_word (h w hw).2⟩
theorem mW_code {C : aM} (h : C.2.2.2.2.1 = []) : mW C = .code C.1 C.2.1 C.2.2.1 C.2.2.2.1 := by unfold mW; rw [h]
theorem mW_codeW {C : aM} (h : C.2.2.2.2.1 ≠ []) : mW C = .codeWith C.1 C.2.1 C.2.2.1 C.2.2.2.1 C.2.2.2.2.1 := by
  unfold mW
  split
  · next z => exact absurd z h
  · rfl
theorem MO.ws {C : aM} {n : Nat} (h : MO C n) : ∀ w ∈ [mW C], inT w := fun w hw => by
  rw [mW_code h.1, List.mem_singleton] at hw
  subst hw
  exact h.2.1
section A9
variable {S : aS} {C C' : aM} {d d' : Nat} {Q Q' : Option Value → aH → Prop} {X X' : String → aH → Prop} {k1 k2 j1 j2 pc np tgt n : Nat} {w : Int32} {ls ls' : List (Option Value)} {st st' st0 : List Value} {h : aH} {ins : Instr} {As : List Value}
/-- what a call asks of the room: d' + 1 ≤ d, and of the stack below -/
def cOk (d d' j1 j2 k1 k2 : Nat) (st : List Value) : Bool := Nat.ble (d' + 1) d && (Nat.ble j1 k1 && (Nat.ble j2 k2 && Nat.ble (st.map fun v => v.category).sum 8))
theorem cOk_spec {d d' j1 j2 k1 k2 : Nat} {st : List Value} (h : cOk d d' j1 j2 k1 k2 st = true) : d' + 1 ≤ d ∧ j1 ≤ k1 ∧ j2 ≤ k2 ∧ (st.map fun v => v.category).sum ≤ 8 := by
  simp only [cOk, Bool.and_eq_true] at h
  exact ⟨Nat.le_of_ble_eq_true h.1, Nat.le_of_ble_eq_true h.2.1, Nat.le_of_ble_eq_true h.2.2.1, Nat.le_of_ble_eq_true h.2.2.2⟩
theorem cat_map (G : aG) (st : List Value) : ((st.map (mv G)).map fun v => v.category).sum = (st.map fun v => v.category).sum := by
  rw [List.map_map]
  congr 1
  exact List.map_congr_left fun v _ => mv_cat G v
/-- thrown through a method without handlers -/
theorem go_out {p : Program} {l : Launch} {e : Env} {s : State} {m : MethodId} {args : Array Value} {below : List Frame} {meth : Method} {c : Code} {H' : Heap} {la : Array Slot} {locs' : List Loc} {cells slots mc ms : Nat} {G : aG} {E : String} {h' : aH} {q : Addr} {ce : Cell} {rest : List Value}
    (CC : CX C l p s m meth c) (hh : C.2.2.2.2.1 = []) (hX : X E h') (hR : Rep G h' H') (hF : va_S (aA G) s.heap H' locs') (hce : H'[q]? = some ce) (hcv : ce.vm = .none) (hcl : s.vm.findClass E = some ce.cls) (h1 : cells ≤ mc) (h2 : slots ≤ ms) :
    vx_W p l e (rmD d mc ms) s m args below meth c H' locs' cells slots (vx_MQ below (QcM G Q) (XcM G X) args s mc ms (aA G)) (F0 m pc la rest) q :=
  vx_out (fun x hx => by rw [CC.2.2.2.2.2.2.2.2.1, hh] at hx; cases hx) CC.2.2.2.1 hce hcv hcl (fun t ht hA => ⟨h', hX, by rw [ht]; exact hR, hF.F ht⟩) hF.2.2 h1 h2
/-- the words of a call of a method known by its callers -/
theorem cb_of {own : String} {idx : Nat} {s : State} {args : Array Value} {mc ms : Nat} {G : aG} (hS : SW S G s) (hM : MO C' n) (hl : inT (.methodLink own idx C'.1)) (hd : d' + 1 ≤ d) :
    CallB (rmD d mc ms) s args own idx C'.1 C'.2.1 C'.2.2.1 C'.2.2.2.1 [mW C'] (rmD d' j1 j2) j1 j2 n := by
  have := hM.2.2.2.2
  refine callB_of (Ts := gT) (ws' := []) n (gT_ok hS) (good_gT hM.ws) (by rw [mW_code hM.1]) rfl rfl (gT_ok hS _ (inT_gT hM.2.2.1)) (gT_ok hS _ (inT_gT hl)) hM.2.2.2.1 ⟨by show d' + 998 + 1 ≤ d + 998; omega, ?_⟩
  show 8 + (C'.2.2.1 + 11) + 80 * d' ≤ 80 * d
  omega
theorem cn_of {own host : String} {idx : Nat} {s : State} {args : Array Value} {mc ms : Nat} {G : aG} (hS : SW S G s) (hM : MO C' n) (hl : Cond.methodLinkNest own idx C'.1 host ∈ lw_tbl) (hd : d' + 1 ≤ d) :
    va_CN (rmD d mc ms) s args own idx C'.1 host C'.2.1 C'.2.2.1 C'.2.2.2.1 [mW C'] (rmD d' j1 j2) j1 j2 n := by
  have := hM.2.2.2.2
  refine va_cnB (Ts := gT) (ws' := []) n (gT_ok hS) (good_gT hM.ws) (by rw [mW_code hM.1]) rfl rfl (va_Nw.of rfl (hS.2.2.1 _ hl (by simp [isNest]) #[])) (gT_ok hS _ (inT_gT hM.2.2.1)) hM.2.2.2.1 ⟨by show d' + 998 + 1 ≤ d + 998; omega, ?_⟩
  show 8 + (C'.2.2.1 + 11) + 80 * d' ≤ 80 * d
  omega
theorem pc_of {s : State} {H : Heap} {G : aG} (hS : SW S G s) (hR : Rep G h H) {locs : List Loc} (hF : va_S (aA G) s.heap H locs) : ∀ U : State, U.heap = H → s.WarmedH U.vm → PcM S G As h (As.map (mv G)).toArray U := fun U hU hW => ⟨rfl, by rw [hU]; exact hR, SW.go hW (fun q hq hn => by rw [hU]; exact hF.2.1 q hq hn) hS⟩
/-- the receiver's class -/
def rcv (h : aH) (q : Nat) (cn : String) : Prop := ∃ ci r, h.1 q = (1, ci) ∧ aC[ci]? = some r ∧ r.1.1 = cn
theorem rcv_of {s : State} {H : Heap} {G : aG} {q : Nat} {cn : String} (hS : SW S G s) (hR : Rep G h H) (hq : rcv h q cn) : ∃ cellB : Cell, H[ad G q]? = some cellB ∧ cellB.vm.isStatics = false ∧ s.vm.findClass cn = some cellB.cls := by
  obtain ⟨ci, r, hK, hr, rfl⟩ := hq
  obtain ⟨r', hr', cell, q1, q2, q3, q4⟩ := hR.ob hK
  cases hr.symm.trans hr'
  exact ⟨cell, q1, by rw [q3]; rfl, by rw [q2]; exact (hS.1 ci r hr).2.1⟩
/-- a call's end, for all kinds -/
theorem a_end {p : Program} {l : Launch} {e : Env} {s : State} {m : MethodId} {args : Array Value} {below : List Frame} {meth : Method} {c : Code} {H : Heap} {la : Array Slot} {locs : List Loc} {cells slots mc ms : Nat} {G : aG} {a : Array Value} {stm : List Value}
    (CC : CX C l p s m meth c) (hS : SW S G s) (hL : HL G la C.2.2.1 ls) (hF : va_S (aA G) s.heap H locs) (h1 : cells + k1 ≤ mc) (h2 : slots + k2 ≤ ms) (g1 : j1 ≤ k1) (g2 : j2 ≤ k2) (hh : C.2.2.2.2.1 = [])
    (hr : vx_Run p l e (rmD d mc ms) s m args below meth c H locs cells slots j1 j2 (F0 m pc la stm) (st.map (mv G)) (QcM G Q' a) (XcM G X') (aA G))
    (kr : ∀ v h', Q' v h' → AW S C d Q X (k1 - j1) (k2 - j2) (pc + 3) ls (v.toList ++ st) h') (kx : ∀ E h', X' E h' → X E h') :
    W p l e (rmD d mc ms) s m args below meth c H locs cells slots (vx_MQ below (QcM G Q) (XcM G X) args s mc ms (aA G)) (F0 m pc la stm) := by
  refine go_run hr hF (fun v h' H' locs' q1 q2 q3 => ?_) (fun E h' q ce H' locs' q1 q2 q3 q4 q5 q6 => go_out CC hh (kx _ _ q1) q2 q3 q4 q5 q6 (by omega) (by omega))
  have K := kr v h' q1 p l e s m args below meth c H' la locs' (cells + j1) (slots + j2) mc ms G CC hS hL q2 q3 (by omega) (by omega)
  have e1 : (v.toList ++ st).map (mv G) = (Option.map (mv G) v).toList ++ st.map (mv G) := by cases v <;> simp
  rw [e1] at K
  exact K
theorem a_callV {idx q : Nat} (hC : look C pc = some (.invokevirtual idx, np, tgt, w)) (hl : LK C.1.cls idx C') (hM : MOv C' n) (hs : Sp S C' d' j1 j2 (.ref q :: As) h Q' X') (hn : As.length = n) (h0 : st0 = As.reverse ++ .ref q :: st) (ho : cOk d d' j1 j2 k1 k2 st = true) (hq : rcv h q C'.1.cls) (hh : C.2.2.2.2.1 = [])
    (kr : ∀ v h', Q' v h' → AW S C d Q X (k1 - j1) (k2 - j2) np ls (v.toList ++ st) h') (kx : ∀ E h', X' E h' → X E h') : AW S C d Q X k1 k2 pc ls st0 h := by
  intro p l e s m args below meth c H la locs cells slots mc ms G CC hS hL hR hF h1 h2
  obtain ⟨hd, rfl, -⟩ := okd CC.2.2.2.2.2.2.2.2.2 hC rfl
  obtain ⟨g0, g1, g2, g3⟩ := cOk_spec ho
  subst h0
  refine a_end CC hS hL hF h1 h2 g1 g2 hh (vx_runV (Ts := gT) (As := As.map (mv G)) (b := ad G q) ⟨CC.1, CC.2.1, CC.2.2.2.2.1, CC.2.2.2.2.2.1, gT_ok hS⟩ (hs l G CC.2.2.2.2.2.2.2.1) ⟨cb_of hS hM.1 hl g0, gT_ok hS _ (inT_gT hM.2.1), gT_ok hS _ (inT_gT hM.2.2)⟩ ⟨PcM.blind, rcv_of hS hR hq, pc_of (As := .ref q :: As) hS hR hF⟩ rfl (by simpa using hn) hL.1 (by simp [mv]) (lv_room (by rw [cat_map]; exact g3)) hd ⟨by show cells + j1 ≤ mc; omega, by show slots + j2 ≤ ms; omega⟩) kr kx
theorem a_callN {idx q : Nat} (hC : look C pc = some (.invokevirtual idx, np, tgt, w)) (hl : LKn C.1.cls idx C') (hM : MOv C' n) (hs : Sp S C' d' j1 j2 (.ref q :: As) h Q' X') (hn : As.length = n) (h0 : st0 = As.reverse ++ .ref q :: st) (ho : cOk d d' j1 j2 k1 k2 st = true) (hq : rcv h q C'.1.cls) (hh : C.2.2.2.2.1 = [])
    (kr : ∀ v h', Q' v h' → AW S C d Q X (k1 - j1) (k2 - j2) np ls (v.toList ++ st) h') (kx : ∀ E h', X' E h' → X E h') : AW S C d Q X k1 k2 pc ls st0 h := by
  intro p l e s m args below meth c H la locs cells slots mc ms G CC hS hL hR hF h1 h2
  obtain ⟨hd, rfl, -⟩ := okd CC.2.2.2.2.2.2.2.2.2 hC rfl
  obtain ⟨g0, g1, g2, g3⟩ := cOk_spec ho
  subst h0
  obtain ⟨host, hl⟩ := hl
  refine a_end CC hS hL hF h1 h2 g1 g2 hh (vx_runVN (Ts := gT) (As := As.map (mv G)) (b := ad G q) ⟨CC.1, CC.2.1, CC.2.2.2.2.1, CC.2.2.2.2.2.1, gT_ok hS⟩ (hs l G CC.2.2.2.2.2.2.2.1) ⟨cn_of hS hM.1 hl g0, gT_ok hS _ (inT_gT hM.2.1), gT_ok hS _ (inT_gT hM.2.2)⟩ ⟨PcM.blind, rcv_of hS hR hq, pc_of (As := .ref q :: As) hS hR hF⟩ rfl (by simpa using hn) hL.1 (by simp [mv]) (lv_room (by rw [cat_map]; exact g3)) hd ⟨by show cells + j1 ≤ mc; omega, by show slots + j2 ≤ ms; omega⟩) kr kx
theorem a_callS {idx : Nat} (hC : look C pc = some (.invokestatic idx, np, tgt, w)) (hl : LK C.1.cls idx C') (hM : MOs C' n) (hs : Sp S C' d' j1 j2 As h Q' X') (hn : As.length = n) (h0 : st0 = As.reverse ++ st) (ho : cOk d d' j1 j2 k1 k2 st = true) (hh : C.2.2.2.2.1 = [])
    (kr : ∀ v h', Q' v h' → AW S C d Q X (k1 - j1) (k2 - j2) np ls (v.toList ++ st) h') (kx : ∀ E h', X' E h' → X E h') : AW S C d Q X k1 k2 pc ls st0 h := by
  intro p l e s m args below meth c H la locs cells slots mc ms G CC hS hL hR hF h1 h2
  obtain ⟨hd, rfl, -⟩ := okd CC.2.2.2.2.2.2.2.2.2 hC rfl
  obtain ⟨g0, g1, g2, g3⟩ := cOk_spec ho
  subst h0
  refine a_end CC hS hL hF h1 h2 g1 g2 hh (vx_runS (Ts := gT) (As := As.map (mv G)) ⟨CC.1, CC.2.1, CC.2.2.2.2.1, CC.2.2.2.2.2.1, gT_ok hS⟩ (hs l G CC.2.2.2.2.2.2.2.1) ⟨cb_of hS hM.1 hl g0, gT_ok hS _ (inT_gT hM.2)⟩ ⟨PcM.blind, pc_of hS hR hF⟩ rfl (by simpa using hn) hL.1 (by simp) (lv_room (by rw [cat_map]; exact g3)) hd ⟨by show cells + j1 ≤ mc; omega, by show slots + j2 ≤ ms; omega⟩) kr kx
theorem a_callSN {idx : Nat} (hC : look C pc = some (.invokestatic idx, np, tgt, w)) (hl : LKn C.1.cls idx C') (hM : MOs C' n) (hs : Sp S C' d' j1 j2 As h Q' X') (hn : As.length = n) (h0 : st0 = As.reverse ++ st) (ho : cOk d d' j1 j2 k1 k2 st = true) (hh : C.2.2.2.2.1 = [])
    (kr : ∀ v h', Q' v h' → AW S C d Q X (k1 - j1) (k2 - j2) np ls (v.toList ++ st) h') (kx : ∀ E h', X' E h' → X E h') : AW S C d Q X k1 k2 pc ls st0 h := by
  intro p l e s m args below meth c H la locs cells slots mc ms G CC hS hL hR hF h1 h2
  obtain ⟨hd, rfl, -⟩ := okd CC.2.2.2.2.2.2.2.2.2 hC rfl
  obtain ⟨g0, g1, g2, g3⟩ := cOk_spec ho
  subst h0
  obtain ⟨host, hl⟩ := hl
  refine a_end CC hS hL hF h1 h2 g1 g2 hh (vx_runSN (Ts := gT) (As := As.map (mv G)) ⟨CC.1, CC.2.1, CC.2.2.2.2.1, CC.2.2.2.2.2.1, gT_ok hS⟩ (hs l G CC.2.2.2.2.2.2.2.1) ⟨cn_of hS hM.1 hl g0, gT_ok hS _ (inT_gT hM.2), trivial⟩ ⟨PcM.blind, pc_of hS hR hF⟩ rfl (by simpa using hn) hL.1 (by simp) (lv_room (by rw [cat_map]; exact g3)) hd ⟨by show cells + j1 ≤ mc; omega, by show slots + j2 ≤ ms; omega⟩) kr kx
theorem a_callI {idx q : Nat} (hC : look C pc = some (.invokespecial idx, np, tgt, w)) (hl : LK C.1.cls idx C') (hM : MOi C' n) (hs : Sp S C' d' j1 j2 (.ref q :: As) h Q' X') (hn : As.length = n) (h0 : st0 = As.reverse ++ .ref q :: st) (ho : cOk d d' j1 j2 k1 k2 st = true) (hh : C.2.2.2.2.1 = [])
    (kr : ∀ v h', Q' v h' → AW S C d Q X (k1 - j1) (k2 - j2) np ls (v.toList ++ st) h') (kx : ∀ E h', X' E h' → X E h') : AW S C d Q X k1 k2 pc ls st0 h := by
  intro p l e s m args below meth c H la locs cells slots mc ms G CC hS hL hR hF h1 h2
  obtain ⟨hd, rfl, -⟩ := okd CC.2.2.2.2.2.2.2.2.2 hC rfl
  obtain ⟨g0, g1, g2, g3⟩ := cOk_spec ho
  subst h0
  have cb := cb_of (args := args) (mc := mc) (ms := ms) (j1 := j1) (j2 := j2) hS hM.1 hl g0
  rw [hM.2.2.2] at cb
  refine a_end CC hS hL hF h1 h2 g1 g2 hh (vx_runI (Ts := gT) (As := As.map (mv G)) (b := ad G q) ⟨CC.1, CC.2.1, CC.2.2.2.2.1, CC.2.2.2.2.2.1, gT_ok hS⟩ (hs l G CC.2.2.2.2.2.2.2.1) ⟨cb, hM.2.2.1, gT_ok hS _ (inT_gT hM.2.1)⟩ ⟨PcM.blind, pc_of (As := .ref q :: As) hS hR hF⟩ rfl (by simpa using hn) hL.1 (by simp [mv]) (lv_room (by rw [cat_map]; exact g3)) hd ⟨by show cells + j1 ≤ mc; omega, by show slots + j2 ≤ ms; omega⟩) kr kx
theorem a_callIN {idx q : Nat} (hC : look C pc = some (.invokespecial idx, np, tgt, w)) (hl : LKn C.1.cls idx C') (hM : MOi C' n) (hs : Sp S C' d' j1 j2 (.ref q :: As) h Q' X') (hn : As.length = n) (h0 : st0 = As.reverse ++ .ref q :: st) (ho : cOk d d' j1 j2 k1 k2 st = true) (hh : C.2.2.2.2.1 = [])
    (kr : ∀ v h', Q' v h' → AW S C d Q X (k1 - j1) (k2 - j2) np ls (v.toList ++ st) h') (kx : ∀ E h', X' E h' → X E h') : AW S C d Q X k1 k2 pc ls st0 h := by
  intro p l e s m args below meth c H la locs cells slots mc ms G CC hS hL hR hF h1 h2
  obtain ⟨hd, rfl, -⟩ := okd CC.2.2.2.2.2.2.2.2.2 hC rfl
  obtain ⟨g0, g1, g2, g3⟩ := cOk_spec ho
  subst h0
  obtain ⟨host, hl⟩ := hl
  have cb := cn_of (args := args) (mc := mc) (ms := ms) (j1 := j1) (j2 := j2) hS hM.1 hl g0
  rw [hM.2.2.2] at cb
  refine a_end CC hS hL hF h1 h2 g1 g2 hh (vx_runIN (Ts := gT) (As := As.map (mv G)) (b := ad G q) ⟨CC.1, CC.2.1, CC.2.2.2.2.1, CC.2.2.2.2.2.1, gT_ok hS⟩ (hs l G CC.2.2.2.2.2.2.2.1) ⟨cb, hM.2.2.1, gT_ok hS _ (inT_gT hM.2.1)⟩ ⟨PcM.blind, pc_of (As := .ref q :: As) hS hR hF⟩ rfl (by simpa using hn) hL.1 (by simp [mv]) (lv_room (by rw [cat_map]; exact g3)) hd ⟨by show cells + j1 ≤ mc; omega, by show slots + j2 ≤ ms; omega⟩) kr kx
/-- a static method with handlers of its own, which never throws -/
theorem a_callW {idx : Nat} (hC : look C pc = some (.invokestatic idx, np, tgt, w)) (hl : LK C.1.cls idx C') (hM : MOw C' n) (hs : Sp S C' d' j1 j2 As h Q' X') (hn : As.length = n) (h0 : st0 = As.reverse ++ st) (ho : cOk d d' j1 j2 k1 k2 st = true) (hh : C.2.2.2.2.1 = [])
    (kr : ∀ v h', Q' v h' → AW S C d Q X (k1 - j1) (k2 - j2) np ls (v.toList ++ st) h') (kx : ∀ E h', X' E h' → X E h') : AW S C d Q X k1 k2 pc ls st0 h := by
  intro p l e s m args below meth c H la locs cells slots mc ms G CC hS hL hR hF h1 h2
  obtain ⟨hd, rfl, -⟩ := okd CC.2.2.2.2.2.2.2.2.2 hC rfl
  obtain ⟨g0, g1, g2, g3⟩ := cOk_spec ho
  subst h0
  have hw : ∀ w ∈ [mW C'], inT w := fun w hw => by
    rw [mW_codeW hM.1, List.mem_singleton] at hw
    subst hw
    exact hM.2.1
  have hm := hM.2.2.2.2.1
  have cw := vx_cwSW (R := rmD d mc ms) (s := s) (args := args) (own := C.1.cls) (index := idx) (hh := C'.2.2.2.2.1) (rm := rmD d' j1 j2) (mc := j1) (ms := j2) (ws := [mW C']) (ws' := []) (bytes := C'.2.1) (maxL := C'.2.2.1) (ret := C'.2.2.2.1) (y := C'.1) (Ts := gT) n (gT_ok hS) (good_gT (fun w hw' => by
      unfold va_wsS at hw'
      rcases List.mem_append.mp hw' with hw' | hw'
      · simp only [List.mem_cons, List.not_mem_nil, or_false] at hw'
        rcases hw' with rfl | rfl | rfl
        · exact hl
        · exact hM.2.2.2.2.2
        · exact hM.2.2.1
      · exact hw w hw')) (by rw [mW_codeW hM.1]) rfl rfl hM.2.2.2.1 ⟨by show d' + 998 + 1 ≤ d + 998; omega, by show 8 + (C'.2.2.1 + 11) + 80 * d' ≤ 80 * d; omega⟩
  refine a_end CC hS hL hF h1 h2 g1 g2 hh (vx_runSX (Ts := gT) (As := As.map (mv G)) ⟨CC.1, CC.2.1, CC.2.2.2.2.1, CC.2.2.2.2.2.1, gT_ok hS⟩ (hs l G CC.2.2.2.2.2.2.2.1) cw ⟨PcM.blind, pc_of hS hR hF⟩ rfl (by simpa using hn) hL.1 (by simp) (lv_room (by rw [cat_map]; exact g3)) hd ⟨by show cells + j1 ≤ mc; omega, by show slots + j2 ≤ ms; omega⟩) kr kx
end A9
end
