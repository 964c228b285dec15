/-! ===== the rules of AW: stack and numbers ===== -/
section A4
variable {S : aS} {C : aM} {d : Nat} {Q : Option Value → aH → Prop} {X : String → aH → Prop} {k1 k2 pc np tgt : Nat} {w : Int32} {ls ls' : List (Option Value)} {st st' : List Value} {h : aH} {ins : Instr}
theorem okd {C : aM} {pc np tgt : Nat} {w : Int32} {ins : Instr} (hO : OkM C) (hC : look C pc = some (ins, np, tgt, w)) {n : Nat} (hn : ilen ins = n + 1) : decode C.2.1 pc = .ok (ins, n + 1) ∧ np = pc + (n + 1) ∧ okX pc (ins, np, tgt, w) = true := by
  obtain ⟨h1, -, h3⟩ := hO _ _ hC
  rcases h1 with h1 | ⟨h1, h2⟩
  · exact absurd h1 (by simp only; omega)
  · simp only [hn] at h1 h2
    exact ⟨h1, h2, h3⟩
/-- what an instruction does to the stack alone -/
def sst (ins : Instr) (w : Int32) (st : List Value) : Option (List Value) := match ins, st with
  | .iconst _, st => some (.int w :: st)
  | .bipush _, st => some (.int w :: st)
  | .sipush _, st => some (.int w :: st)
  | .lconst 0, st => some (.long 0 :: st)
  | .lconst 1, st => some (.long 1 :: st)
  | .aconst_null, st => some (.null :: st)
  | .iadd, .int y :: .int x :: r => some (.int (x + y) :: r)
  | .isub, .int y :: .int x :: r => some (.int (x - y) :: r)
  | .imul, .int y :: .int x :: r => some (.int (x * y) :: r)
  | .iand, .int y :: .int x :: r => some (.int (x &&& y) :: r)
  | .ior, .int y :: .int x :: r => some (.int (x ||| y) :: r)
  | .ixor, .int y :: .int x :: r => some (.int (x ^^^ y) :: r)
  | .ineg, .int x :: r => some (.int (-x) :: r)
  | .ishl, .int y :: .int x :: r => some (.int (x <<< (y &&& 31)) :: r)
  | .ishr, .int y :: .int x :: r => some (.int (x >>> (y &&& 31)) :: r)
  | .iushr, .int y :: .int x :: r => some (.int (x.toUInt32 >>> (y.toUInt32 &&& Int32.toUInt32 31)).toInt32 :: r)
  | .ladd, .long y :: .long x :: r => some (.long (x + y) :: r)
  | .lsub, .long y :: .long x :: r => some (.long (x - y) :: r)
  | .lmul, .long y :: .long x :: r => some (.long (x * y) :: r)
  | .lcmp, .long y :: .long x :: r => some (.int (lg_cmp x y) :: r)
  | .i2l, .int x :: r => some (.long x.toInt64 :: r)
  | .l2i, .long x :: r => some (.int x.toInt32 :: r)
  | .i2b, .int x :: r => some (.int x.toInt8.toInt32 :: r)
  | .dup, .int x :: r => some (.int x :: .int x :: r)
  | .dup, .ref x :: r => some (.ref x :: .ref x :: r)
  | .dup, .null :: r => some (.null :: .null :: r)
  | .pop, .int _ :: r => some r
  | .pop, .ref _ :: r => some r
  | .pop, .null :: r => some r
  | .dup2, .int y :: .ref x :: r => some (.int y :: .ref x :: .int y :: .ref x :: r)
  | .dup2, .int y :: .int x :: r => some (.int y :: .int x :: .int y :: .int x :: r)
  | .dup2, .long x :: r => some (.long x :: .long x :: r)
  | _, _ => none
set_option maxHeartbeats 4000000 in
theorem a_s (hC : look C pc = some (ins, np, tgt, w)) (hs : sst ins w st = some st') (k : AW S C d Q X k1 k2 np ls st' h) : AW S C d Q X k1 k2 pc ls st h := by
  intro p l e s m args below meth c H la locs cells slots mc ms G CC hS hL hR hF h1 h2
  have K := k p l e s m args below meth c H la locs cells slots mc ms G CC hS hL hR hF h1 h2
  have hx := CC.1
  have hb := CC.2.1
  have hO := CC.2.2.2.2.2.2.2.2.2
  clear CC
  unfold sst at hs
  split at hs <;> first | (cases hs; done) | (cases hs; obtain ⟨hd, rfl, ho⟩ := okd hO hC rfl)

  · exact lv_iconst hx hb hd (of_decide_eq_true ho) K
  · exact lv_bipush hx hb hd (of_decide_eq_true ho) K
  · exact lv_sipush hx hb hd (of_decide_eq_true ho) K
  · exact lv_lconst (v := 0) hx hb hd rfl K
  · exact lv_lconst (v := 1) hx hb hd rfl K
  · exact lv_null hx hb hd K
  · exact lv_iadd hx hb hd K
  · exact lv_isub hx hb hd K
  · exact lv_imul hx hb hd K
  · exact lv_iand hx hb hd K
  · exact lv_ior hx hb hd K
  · exact lv_ixor hx hb hd K
  · exact lv_ineg hx hb hd K
  · exact lv_ishl hx hb hd K
  · exact lv_ishr hx hb hd K
  · exact lv_iushr hx hb hd rfl K
  · exact lv_ladd hx hb hd K
  · exact lv_lsub hx hb hd K
  · exact lv_lmul hx hb hd K
  · exact W.lcmp hx hb hd K
  · exact lv_i2l hx hb hd rfl K
  · exact lv_l2i hx hb hd rfl K
  · exact lv_i2b hx hb hd rfl K
  · exact lv_dup hx hb hd rfl K
  · exact lv_dup hx hb hd rfl K
  · exact lv_dup hx hb hd rfl K
  · exact lv_pop hx hb hd rfl K
  · exact lv_pop hx hb hd rfl K
  · exact lv_pop hx hb hd rfl K
  · exact lv_dup2_11 hx hb hd rfl rfl K
  · exact lv_dup2_11 hx hb hd rfl rfl K
  · exact lv_dup2_2 hx hb hd rfl K
theorem a_idiv {x y : Int32} {r : List Value} (hC : look C pc = some (.idiv, np, tgt, w)) (hy : ¬ y = 0) (k : AW S C d Q X k1 k2 np ls (.int (x / y) :: r) h) : AW S C d Q X k1 k2 pc ls (.int y :: .int x :: r) h := by
  intro p l e s m args below meth c H la locs cells slots mc ms G CC hS hL hR hF h1 h2
  have K := k p l e s m args below meth c H la locs cells slots mc ms G CC hS hL hR hF h1 h2
  obtain ⟨hd, rfl, -⟩ := okd CC.2.2.2.2.2.2.2.2.2 hC rfl
  exact lv_idiv CC.1 CC.2.1 hd hy K
theorem a_irem {x y : Int32} {r : List Value} (hC : look C pc = some (.irem, np, tgt, w)) (hy : ¬ y = 0) (k : AW S C d Q X k1 k2 np ls (.int (x - x / y * y) :: r) h) : AW S C d Q X k1 k2 pc ls (.int y :: .int x :: r) h := by
  intro p l e s m args below meth c H la locs cells slots mc ms G CC hS hL hR hF h1 h2
  have K := k p l e s m args below meth c H la locs cells slots mc ms G CC hS hL hR hF h1 h2
  obtain ⟨hd, rfl, -⟩ := okd CC.2.2.2.2.2.2.2.2.2 hC rfl
  exact lv_irem CC.1 CC.2.1 hd hy K
theorem a_ldiv {x y : Int64} {r : List Value} (hC : look C pc = some (.ldiv, np, tgt, w)) (hy : ¬ y = 0) (k : AW S C d Q X k1 k2 np ls (.long (x / y) :: r) h) : AW S C d Q X k1 k2 pc ls (.long y :: .long x :: r) h := by
  intro p l e s m args below meth c H la locs cells slots mc ms G CC hS hL hR hF h1 h2
  have K := k p l e s m args below meth c H la locs cells slots mc ms G CC hS hL hR hF h1 h2
  obtain ⟨hd, rfl, -⟩ := okd CC.2.2.2.2.2.2.2.2.2 hC rfl
  exact lv_ldiv CC.1 CC.2.1 hd hy K
theorem a_goto {off : Int} (hC : look C pc = some (.goto off, np, tgt, w)) (k : AW S C d Q X k1 k2 tgt ls st h) : AW S C d Q X k1 k2 pc ls st h := by
  intro p l e s m args below meth c H la locs cells slots mc ms G CC hS hL hR hF h1 h2
  have K := k p l e s m args below meth c H la locs cells slots mc ms G CC hS hL hR hF h1 h2
  obtain ⟨hd, -, ho⟩ := okd CC.2.2.2.2.2.2.2.2.2 hC rfl
  exact lv_goto CC.1 CC.2.1 hd (of_decide_eq_true ho) K
theorem a_if_eq {x : Int32} {off : Int} (hC : look C pc = some (.ifCond .eq off, np, tgt, w)) (kt : x = 0 → AW S C d Q X k1 k2 tgt ls st h) (kf : ¬ x = 0 → AW S C d Q X k1 k2 np ls st h) : AW S C d Q X k1 k2 pc ls (.int x :: st) h := by
  intro p l e s m args below meth c H la locs cells slots mc ms G CC hS hL hR hF h1 h2
  obtain ⟨hd, rfl, ho⟩ := okd CC.2.2.2.2.2.2.2.2.2 hC rfl
  exact lv_if_eq CC.1 CC.2.1 hd (of_decide_eq_true ho) (fun q => kt q p l e s m args below meth c H la locs cells slots mc ms G CC hS hL hR hF h1 h2) (fun q => kf q p l e s m args below meth c H la locs cells slots mc ms G CC hS hL hR hF h1 h2)
theorem a_if_ne {x : Int32} {off : Int} (hC : look C pc = some (.ifCond .ne off, np, tgt, w)) (kt : ¬ x = 0 → AW S C d Q X k1 k2 tgt ls st h) (kf : x = 0 → AW S C d Q X k1 k2 np ls st h) : AW S C d Q X k1 k2 pc ls (.int x :: st) h := by
  intro p l e s m args below meth c H la locs cells slots mc ms G CC hS hL hR hF h1 h2
  obtain ⟨hd, rfl, ho⟩ := okd CC.2.2.2.2.2.2.2.2.2 hC rfl
  exact lv_if_ne CC.1 CC.2.1 hd (of_decide_eq_true ho) (fun q => kt q p l e s m args below meth c H la locs cells slots mc ms G CC hS hL hR hF h1 h2) (fun q => kf q p l e s m args below meth c H la locs cells slots mc ms G CC hS hL hR hF h1 h2)
theorem a_if_lt {x : Int32} {off : Int} (hC : look C pc = some (.ifCond .lt off, np, tgt, w)) (kt : x < 0 → AW S C d Q X k1 k2 tgt ls st h) (kf : ¬ x < 0 → AW S C d Q X k1 k2 np ls st h) : AW S C d Q X k1 k2 pc ls (.int x :: st) h := by
  intro p l e s m args below meth c H la locs cells slots mc ms G CC hS hL hR hF h1 h2
  obtain ⟨hd, rfl, ho⟩ := okd CC.2.2.2.2.2.2.2.2.2 hC rfl
  exact lv_if_lt CC.1 CC.2.1 hd (of_decide_eq_true ho) (fun q => kt q p l e s m args below meth c H la locs cells slots mc ms G CC hS hL hR hF h1 h2) (fun q => kf q p l e s m args below meth c H la locs cells slots mc ms G CC hS hL hR hF h1 h2)
theorem a_if_ge {x : Int32} {off : Int} (hC : look C pc = some (.ifCond .ge off, np, tgt, w)) (kt : 0 ≤ x → AW S C d Q X k1 k2 tgt ls st h) (kf : ¬ 0 ≤ x → AW S C d Q X k1 k2 np ls st h) : AW S C d Q X k1 k2 pc ls (.int x :: st) h := by
  intro p l e s m args below meth c H la locs cells slots mc ms G CC hS hL hR hF h1 h2
  obtain ⟨hd, rfl, ho⟩ := okd CC.2.2.2.2.2.2.2.2.2 hC rfl
  exact lv_if_ge CC.1 CC.2.1 hd (of_decide_eq_true ho) (fun q => kt q p l e s m args below meth c H la locs cells slots mc ms G CC hS hL hR hF h1 h2) (fun q => kf q p l e s m args below meth c H la locs cells slots mc ms G CC hS hL hR hF h1 h2)
theorem a_if_gt {x : Int32} {off : Int} (hC : look C pc = some (.ifCond .gt off, np, tgt, w)) (kt : 0 < x → AW S C d Q X k1 k2 tgt ls st h) (kf : ¬ 0 < x → AW S C d Q X k1 k2 np ls st h) : AW S C d Q X k1 k2 pc ls (.int x :: st) h := by
  intro p l e s m args below meth c H la locs cells slots mc ms G CC hS hL hR hF h1 h2
  obtain ⟨hd, rfl, ho⟩ := okd CC.2.2.2.2.2.2.2.2.2 hC rfl
  exact lv_if_gt CC.1 CC.2.1 hd (of_decide_eq_true ho) (fun q => kt q p l e s m args below meth c H la locs cells slots mc ms G CC hS hL hR hF h1 h2) (fun q => kf q p l e s m args below meth c H la locs cells slots mc ms G CC hS hL hR hF h1 h2)
theorem a_if_le {x : Int32} {off : Int} (hC : look C pc = some (.ifCond .le off, np, tgt, w)) (kt : x ≤ 0 → AW S C d Q X k1 k2 tgt ls st h) (kf : ¬ x ≤ 0 → AW S C d Q X k1 k2 np ls st h) : AW S C d Q X k1 k2 pc ls (.int x :: st) h := by
  intro p l e s m args below meth c H la locs cells slots mc ms G CC hS hL hR hF h1 h2
  obtain ⟨hd, rfl, ho⟩ := okd CC.2.2.2.2.2.2.2.2.2 hC rfl
  exact lv_if_le CC.1 CC.2.1 hd (of_decide_eq_true ho) (fun q => kt q p l e s m args below meth c H la locs cells slots mc ms G CC hS hL hR hF h1 h2) (fun q => kf q p l e s m args below meth c H la locs cells slots mc ms G CC hS hL hR hF h1 h2)
theorem a_ic_eq {x y : Int32} {off : Int} (hC : look C pc = some (.if_icmp .eq off, np, tgt, w)) (kt : x = y → AW S C d Q X k1 k2 tgt ls st h) (kf : ¬ x = y → AW S C d Q X k1 k2 np ls st h) : AW S C d Q X k1 k2 pc ls (.int y :: .int x :: st) h := by
  intro p l e s m args below meth c H la locs cells slots mc ms G CC hS hL hR hF h1 h2
  obtain ⟨hd, rfl, ho⟩ := okd CC.2.2.2.2.2.2.2.2.2 hC rfl
  exact lv_icmp_eq CC.1 CC.2.1 hd (of_decide_eq_true ho) (fun q => kt q p l e s m args below meth c H la locs cells slots mc ms G CC hS hL hR hF h1 h2) (fun q => kf q p l e s m args below meth c H la locs cells slots mc ms G CC hS hL hR hF h1 h2)
theorem a_ic_ne {x y : Int32} {off : Int} (hC : look C pc = some (.if_icmp .ne off, np, tgt, w)) (kt : ¬ x = y → AW S C d Q X k1 k2 tgt ls st h) (kf : x = y → AW S C d Q X k1 k2 np ls st h) : AW S C d Q X k1 k2 pc ls (.int y :: .int x :: st) h := by
  intro p l e s m args below meth c H la locs cells slots mc ms G CC hS hL hR hF h1 h2
  obtain ⟨hd, rfl, ho⟩ := okd CC.2.2.2.2.2.2.2.2.2 hC rfl
  exact lv_icmp_ne CC.1 CC.2.1 hd (of_decide_eq_true ho) (fun q => kt q p l e s m args below meth c H la locs cells slots mc ms G CC hS hL hR hF h1 h2) (fun q => kf q p l e s m args below meth c H la locs cells slots mc ms G CC hS hL hR hF h1 h2)
theorem a_ic_lt {x y : Int32} {off : Int} (hC : look C pc = some (.if_icmp .lt off, np, tgt, w)) (kt : x < y → AW S C d Q X k1 k2 tgt ls st h) (kf : ¬ x < y → AW S C d Q X k1 k2 np ls st h) : AW S C d Q X k1 k2 pc ls (.int y :: .int x :: st) h := by
  intro p l e s m args below meth c H la locs cells slots mc ms G CC hS hL hR hF h1 h2
  obtain ⟨hd, rfl, ho⟩ := okd CC.2.2.2.2.2.2.2.2.2 hC rfl
  exact lv_icmp_lt CC.1 CC.2.1 hd (of_decide_eq_true ho) (fun q => kt q p l e s m args below meth c H la locs cells slots mc ms G CC hS hL hR hF h1 h2) (fun q => kf q p l e s m args below meth c H la locs cells slots mc ms G CC hS hL hR hF h1 h2)
theorem a_ic_ge {x y : Int32} {off : Int} (hC : look C pc = some (.if_icmp .ge off, np, tgt, w)) (kt : y ≤ x → AW S C d Q X k1 k2 tgt ls st h) (kf : ¬ y ≤ x → AW S C d Q X k1 k2 np ls st h) : AW S C d Q X k1 k2 pc ls (.int y :: .int x :: st) h := by
  intro p l e s m args below meth c H la locs cells slots mc ms G CC hS hL hR hF h1 h2
  obtain ⟨hd, rfl, ho⟩ := okd CC.2.2.2.2.2.2.2.2.2 hC rfl
  exact lv_icmp_ge CC.1 CC.2.1 hd (of_decide_eq_true ho) (fun q => kt q p l e s m args below meth c H la locs cells slots mc ms G CC hS hL hR hF h1 h2) (fun q => kf q p l e s m args below meth c H la locs cells slots mc ms G CC hS hL hR hF h1 h2)
theorem a_ic_gt {x y : Int32} {off : Int} (hC : look C pc = some (.if_icmp .gt off, np, tgt, w)) (kt : y < x → AW S C d Q X k1 k2 tgt ls st h) (kf : ¬ y < x → AW S C d Q X k1 k2 np ls st h) : AW S C d Q X k1 k2 pc ls (.int y :: .int x :: st) h := by
  intro p l e s m args below meth c H la locs cells slots mc ms G CC hS hL hR hF h1 h2
  obtain ⟨hd, rfl, ho⟩ := okd CC.2.2.2.2.2.2.2.2.2 hC rfl
  exact lv_icmp_gt CC.1 CC.2.1 hd (of_decide_eq_true ho) (fun q => kt q p l e s m args below meth c H la locs cells slots mc ms G CC hS hL hR hF h1 h2) (fun q => kf q p l e s m args below meth c H la locs cells slots mc ms G CC hS hL hR hF h1 h2)
theorem a_ic_le {x y : Int32} {off : Int} (hC : look C pc = some (.if_icmp .le off, np, tgt, w)) (kt : x ≤ y → AW S C d Q X k1 k2 tgt ls st h) (kf : ¬ x ≤ y → AW S C d Q X k1 k2 np ls st h) : AW S C d Q X k1 k2 pc ls (.int y :: .int x :: st) h := by
  intro p l e s m args below meth c H la locs cells slots mc ms G CC hS hL hR hF h1 h2
  obtain ⟨hd, rfl, ho⟩ := okd CC.2.2.2.2.2.2.2.2.2 hC rfl
  exact lv_icmp_le CC.1 CC.2.1 hd (of_decide_eq_true ho) (fun q => kt q p l e s m args below meth c H la locs cells slots mc ms G CC hS hL hR hF h1 h2) (fun q => kf q p l e s m args below meth c H la locs cells slots mc ms G CC hS hL hR hF h1 h2)
theorem a_ifnull_t {off : Int} (hC : look C pc = some (.ifnull off, np, tgt, w)) (k : AW S C d Q X k1 k2 tgt ls st h) : AW S C d Q X k1 k2 pc ls (.null :: st) h := by
  intro p l e s m args below meth c H la locs cells slots mc ms G CC hS hL hR hF h1 h2
  obtain ⟨hd, rfl, ho⟩ := okd CC.2.2.2.2.2.2.2.2.2 hC rfl
  exact lv_ifnullN CC.1 CC.2.1 hd (of_decide_eq_true ho) (k p l e s m args below meth c H la locs cells slots mc ms G CC hS hL hR hF h1 h2)
theorem a_ifnull_f {off : Int} {x : Nat} (hC : look C pc = some (.ifnull off, np, tgt, w)) (k : AW S C d Q X k1 k2 np ls st h) : AW S C d Q X k1 k2 pc ls (.ref x :: st) h := by
  intro p l e s m args below meth c H la locs cells slots mc ms G CC hS hL hR hF h1 h2
  obtain ⟨hd, rfl, ho⟩ := okd CC.2.2.2.2.2.2.2.2.2 hC rfl
  exact lv_ifnull CC.1 CC.2.1 hd (k p l e s m args below meth c H la locs cells slots mc ms G CC hS hL hR hF h1 h2)
theorem a_ifnonnull_f {off : Int} (hC : look C pc = some (.ifnonnull off, np, tgt, w)) (k : AW S C d Q X k1 k2 np ls st h) : AW S C d Q X k1 k2 pc ls (.null :: st) h := by
  intro p l e s m args below meth c H la locs cells slots mc ms G CC hS hL hR hF h1 h2
  obtain ⟨hd, rfl, ho⟩ := okd CC.2.2.2.2.2.2.2.2.2 hC rfl
  exact lv_ifnonnullN CC.1 CC.2.1 hd (k p l e s m args below meth c H la locs cells slots mc ms G CC hS hL hR hF h1 h2)
theorem a_ifnonnull_t {off : Int} {x : Nat} (hC : look C pc = some (.ifnonnull off, np, tgt, w)) (k : AW S C d Q X k1 k2 tgt ls st h) : AW S C d Q X k1 k2 pc ls (.ref x :: st) h := by
  intro p l e s m args below meth c H la locs cells slots mc ms G CC hS hL hR hF h1 h2
  obtain ⟨hd, rfl, ho⟩ := okd CC.2.2.2.2.2.2.2.2.2 hC rfl
  exact lv_ifnonnull CC.1 CC.2.1 hd (of_decide_eq_true ho) (k p l e s m args below meth c H la locs cells slots mc ms G CC hS hL hR hF h1 h2)
/-- 'a.word != Word.X': words are constants, apart or null; rx, ry as reference numbers -/
theorem a_acmp_ne {rx ry : Nat} {off : Int} (hC : look C pc = some (.if_acmp .ne off, np, tgt, w)) (hx : rx = 0 ∨ ∃ E, (rx - 1, E) ∈ S.2.1) (hy : ry = 0 ∨ ∃ E, (ry - 1, E) ∈ S.2.1) (kt : ¬ rx = ry → AW S C d Q X k1 k2 tgt ls st h) (kf : rx = ry → AW S C d Q X k1 k2 np ls st h) : AW S C d Q X k1 k2 pc ls (rv ry :: rv rx :: st) h := by
  intro p l e s m args below meth c H la locs cells slots mc ms G CC hS hL hR hF h1 h2
  obtain ⟨hd, rfl, ho⟩ := okd CC.2.2.2.2.2.2.2.2.2 hC rfl
  have inj := hS.2.2.2.2.2.2.1
  simp only [List.map_cons, mv_rf]
  have key : rfo G rx = rfo G ry ↔ rx = ry := by
    constructor
    · intro he
      rcases rx with _ | a <;> rcases ry with _ | b
      · rfl
      · cases he
      · cases he
      · rcases hx with hx | ⟨E, hx⟩
        · cases hx
        · rcases hy with hy | ⟨E', hy⟩
          · cases hy
          · exact congrArg (· + 1) (inj (a, E) (b, E') hx hy (Option.some.inj he))
    · intro he
      rw [he]
  exact lv_acmp_ne CC.1 CC.2.1 hd (of_decide_eq_true ho) (fun q => kt (fun z => q (key.mpr z)) p l e s m args below meth c H la locs cells slots mc ms G CC hS hL hR hF h1 h2) (fun q => kf (key.mp q) p l e s m args below meth c H la locs cells slots mc ms G CC hS hL hR hF h1 h2)
end A4
