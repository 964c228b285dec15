/-! ===== constants: the words, their texts, strings ===== -/
section A56
variable {S : aS} {C C' : aM} {d d' : Nat} {Q Q' : Option Value → aH → Prop} {X X' : String → aH → Prop} {k1 k2 j1 j2 pc np tgt n : Nat} {w : Int32} {ls ls' : List (Option Value)} {st st' st0 : List Value} {h h' : aH} {ins : Instr} {As : List Value} {v : Value}
theorem a_i2c {x y : Int32} {r : List Value} (hC : look C pc = some (.i2c, np, tgt, w)) (hv : x.toUInt32.toUInt16.toUInt32.toInt32 = y) (k : AW S C d Q X k1 k2 np ls (.int y :: r) h) : AW S C d Q X k1 k2 pc ls (.int x :: r) h := by
  intro p l e s m args below meth c H la locs cells slots mc ms G CC hS hL hR hF h1 h2
  have K := k p l e s m args below meth c H la locs cells slots mc ms G CC hS hL hR hF h1 h2
  obtain ⟨hd, rfl, -⟩ := okd CC.2.2.2.2.2.2.2.2.2 hC rfl
  have hexec := CC.1
  have hb := CC.2.1
  intro T hT X
  obtain ⟨t, a, b⟩ := K T hT X
  refine ⟨t, ?_, b⟩
  rw [List.map_cons, show mv G (Value.int y) = .int y from rfl, ← hv] at a
  rw [List.map_cons, show mv G (Value.int x) = .int x from rfl]
  jvm_step X.here [X.here.top, hexec, hb, hd]
  exact a
theorem a_bret {x : Int32} (hC : look C pc = some (.ireturn, np, tgt, w)) (hr : C.2.2.2.1 = some .byte) (hx : narrow .byte (.int x) = .int x) (hQ : Q (some (.int x)) h) : AW S C d Q X k1 k2 pc ls [.int x] h := by
  intro p' l e s m args below meth c H la locs cells slots mc ms G CC hS hL hR hF h1 h2
  obtain ⟨hd, rfl, -⟩ := okd CC.2.2.2.2.2.2.2.2.2 hC rfl
  have hlk := CC.2.2.2.1
  refine vx_ret (W.widen (k := mc) (n := ms) (by omega) (by omega) (W.zret CC.1 CC.2.1 (CC.2.2.1.trans hr) hx (fun t ht hW => ⟨some (.int x), h, rfl, hQ, by rw [ht]; exact hR, hF.F ht⟩) hF.2.2 hd hlk))
end A56
def dWd : String := "LPutOffParade$Word;"
def wNm (i : Nat) : String := (["PERSON", "AT", "FREE", "DUTY", "OF", "TAKES", "AGE", "TOOL", "ON", "FORGOTTEN", "ILL", "PACE", "PRICE", "DAY", "MONTH", "GROW", "SHAME", "EASE", "IF", "OR", "AND", "NOT", "READY", "OLD", "LEFT", "OWNER", "KERB"] : List String).getD i ""
def wTx (i : Nat) : String := (["person", "at", "free", "duty", "of", "takes", "age", "tool", "on", "forgotten", "ill", "pace", "price", "day", "month", "grow", "shame", "ease", "if", "or", "and", "not", "ready", "old", "left", "owner", "kerb"] : List String).getD i ""
def wBy (i : Nat) : List Nat := ([[112, 101, 114, 115, 111, 110], [97, 116], [102, 114, 101, 101], [100, 117, 116, 121], [111, 102], [116, 97, 107, 101, 115], [97, 103, 101], [116, 111, 111, 108], [111, 110], [102, 111, 114, 103, 111, 116, 116, 101, 110], [105, 108, 108], [112, 97, 99, 101], [112, 114, 105, 99, 101], [100, 97, 121], [109, 111, 110, 116, 104], [103, 114, 111, 119], [115, 104, 97, 109, 101], [101, 97, 115, 101], [105, 102], [111, 114], [97, 110, 100], [110, 111, 116], [114, 101, 97, 100, 121], [111, 108, 100], [108, 101, 102, 116], [111, 119, 110, 101, 114], [107, 101, 114, 98]] : List (List Nat)).getD i []
def wMi (i : Nat) : Nat := ([139, 116, 121, 145, 123, 124, 126, 131, 133, 150, 155, 160, 162, 164, 166, 218, 220, 222, 224, 216, 211, 200, 190, 192, 171, 173, 175] : List Nat).getD i 0
def wPa (i : Nat) : Int32 := ([(-1), (-1), (-1), 1000, (-1), (-1), 1002, 1003, (-1), (-1), (-1), (-1), (-1), 1006, (-1), (-1), (-1), (-1), (-1), (-1), (-1), (-1), (-1), (-1), 1001, 1004, 1005] : List Int32).getD i (-1)
def wLen (i : Nat) : Nat := (wBy i).length
def wC (i j : Nat) : Int32 := nI ((wBy i).getD j 0)
/-- places: words 100 + i, texts 130 + i, their bytes 160 + i, all words 190, the formatter 191 -/
def WdS (S : aS) : Prop :=
  (∀ i, i < 27 → (RX10, wNm i, dWd, Value.ref (100 + i)) ∈ S.1) ∧ (RX9, "WORDS", "[LPutOffParade$Word;", Value.ref 190) ∈ S.1 ∧ (RJ0, "COMPACT_STRINGS", "Z", Value.int 1) ∈ S.1 ∧ (∃ v, (v = Value.null ∨ v = Value.ref 191) ∧ (RJ3, "SIOOBE_FORMATTER", "Ljava/util/function/BiFunction;", v) ∈ S.1) ∧
  (∀ i, i < 27 → (100 + i, RX10) ∈ S.2.1) ∧ (∀ i, i < 27 → (130 + i, RJ0) ∈ S.2.1) ∧
  (∀ i, i < 27 → (100 + i, RX10, "text", "Ljava/lang/String;", Value.ref (130 + i)) ∈ S.2.2.1) ∧ (∀ i, i < 27 → (100 + i, RX10, "part", "I", Value.int (wPa i)) ∈ S.2.2.1) ∧
  (∀ i, i < 27 → (130 + i, RJ0, "value", "[B", Value.ref (160 + i)) ∈ S.2.2.1) ∧ (∀ i, i < 27 → (130 + i, RJ0, "coder", "B", Value.int 0) ∈ S.2.2.1) ∧
  (190, FieldType.object RX10, 27, fun j => Value.ref (100 + j)) ∈ S.2.2.2.1 ∧ (∀ i, i < 27 → (160 + i, FieldType.byte, wLen i, fun j => Value.int (wC i j)) ∈ S.2.2.2.1) ∧
  (∀ i, i < 27 → (RX12, wMi i, wTx i, 130 + i) ∈ S.2.2.2.2.1)
section B56
variable {S : aS}
theorem WdS.st (h : WdS S) {i : Nat} (hi : i < 27) : (RX10, wNm i, dWd, Value.ref (100 + i)) ∈ S.1 := h.1 i hi
theorem WdS.al (h : WdS S) : (RX9, "WORDS", "[LPutOffParade$Word;", Value.ref 190) ∈ S.1 := h.2.1
theorem WdS.cs (h : WdS S) : (RJ0, "COMPACT_STRINGS", "Z", Value.int 1) ∈ S.1 := h.2.2.1
theorem WdS.sf (h : WdS S) : (∃ v, (v = Value.null ∨ v = Value.ref 191) ∧ (RJ3, "SIOOBE_FORMATTER", "Ljava/util/function/BiFunction;", v) ∈ S.1) := h.2.2.2.1
theorem WdS.ob (h : WdS S) {i : Nat} (hi : i < 27) : (100 + i, RX10) ∈ S.2.1 := h.2.2.2.2.1 i hi
theorem WdS.so (h : WdS S) {i : Nat} (hi : i < 27) : (130 + i, RJ0) ∈ S.2.1 := h.2.2.2.2.2.1 i hi
theorem WdS.tx (h : WdS S) {i : Nat} (hi : i < 27) : (100 + i, RX10, "text", "Ljava/lang/String;", Value.ref (130 + i)) ∈ S.2.2.1 := h.2.2.2.2.2.2.1 i hi
theorem WdS.pa (h : WdS S) {i : Nat} (hi : i < 27) : (100 + i, RX10, "part", "I", Value.int (wPa i)) ∈ S.2.2.1 := h.2.2.2.2.2.2.2.1 i hi
theorem WdS.va (h : WdS S) {i : Nat} (hi : i < 27) : (130 + i, RJ0, "value", "[B", Value.ref (160 + i)) ∈ S.2.2.1 := h.2.2.2.2.2.2.2.2.1 i hi
theorem WdS.co (h : WdS S) {i : Nat} (hi : i < 27) : (130 + i, RJ0, "coder", "B", Value.int 0) ∈ S.2.2.1 := h.2.2.2.2.2.2.2.2.2.1 i hi
theorem WdS.ar (h : WdS S) : (190, FieldType.object RX10, 27, fun j => Value.ref (100 + j)) ∈ S.2.2.2.1 := h.2.2.2.2.2.2.2.2.2.2.1
theorem WdS.by (h : WdS S) {i : Nat} (hi : i < 27) : (160 + i, FieldType.byte, wLen i, fun j => Value.int (wC i j)) ∈ S.2.2.2.1 := h.2.2.2.2.2.2.2.2.2.2.2.1 i hi
theorem WdS.ld (h : WdS S) {i : Nat} (hi : i < 27) : (RX12, wMi i, wTx i, 130 + i) ∈ S.2.2.2.2.1 := h.2.2.2.2.2.2.2.2.2.2.2.2 i hi
theorem wC_ok : ∀ i, i < 27 → ∀ j, j < wLen i → ∃ b, 97 ≤ b ∧ b ≤ 122 ∧ wC i j = nI b ∧ (wC i j &&& 255).toUInt32.toUInt16.toUInt32.toInt32 = nI b := by
  have h : ∀ i, i < 27 → ∀ j, j < wLen i → 97 ≤ (wBy i).getD j 0 ∧ (wBy i).getD j 0 ≤ 122 := by decide +kernel
  have h2 : ∀ b, b < 123 → (nI b &&& 255).toUInt32.toUInt16.toUInt32.toInt32 = nI b := by decide +kernel
  intro i hi j hj
  have := h i hi j hj
  exact ⟨_, this.1, this.2, rfl, h2 _ (by omega)⟩
theorem nr_char : ∀ b, b < 123 → narrow .char (.int (nI b)) = .int (nI b) := by decide +kernel
set_option maxRecDepth 100000
theorem q_coder {h : aH} (hw : WdS S) {i : Nat} (hi : i < 27) : SpE S m_J0_coder_7d493 12 [.ref (130 + i)] h (some (.int 0)) h := by
  refine SpE_of ok_J0_coder_7d493 rfl rfl ?_
  show AW S m_J0_coder_7d493 12 _ _ 0 0 0 [some (.ref (130 + i))] [] h
  refine a_gets rfl (inC4 (i := 14) rfl rfl) hw.cs ?_
  refine a_if_eq rfl (fun c => absurd c (by decide)) (fun _ => ?_)
  refine a_l0 rfl rfl rfl ?_
  refine a_getc rfl (inC10 (i := 52) rfl rfl) (hw.co hi) ?_
  refine a_goto rfl ?_
  exact a_bret rfl rfl rfl ⟨rfl, rfl⟩
theorem q_isLatin1 {h : aH} (hw : WdS S) {i : Nat} (hi : i < 27) : SpE S m_J0_isLatin1_aae02 12 [.ref (130 + i)] h (some (.int 1)) h := by
  refine SpE_of ok_J0_isLatin1_aae02 rfl rfl ?_
  show AW S m_J0_isLatin1_aae02 12 _ _ 0 0 0 [some (.ref (130 + i))] [] h
  refine a_gets rfl (inC4 (i := 14) rfl rfl) hw.cs ?_
  refine a_if_eq rfl (fun c => absurd c (by decide)) (fun _ => ?_)
  refine a_l0 rfl rfl rfl ?_
  refine a_getc rfl (inC10 (i := 52) rfl rfl) (hw.co hi) ?_
  refine a_if_ne rfl (fun c => absurd rfl c) (fun _ => ?_)
  refine a_s rfl rfl ?_
  refine a_goto rfl ?_
  exact a_zret rfl rfl rfl ⟨rfl, rfl⟩
theorem q_strlen {h : aH} (hw : WdS S) {i : Nat} (hi : i < 27) : SpE S m_J0_length_8abf5 13 [.ref (130 + i)] h (some (.int (nI (wLen i)))) h := by
  refine SpE_of ok_J0_length_8abf5 rfl rfl ?_
  show AW S m_J0_length_8abf5 13 _ _ 0 0 0 [some (.ref (130 + i))] [] h
  refine a_l0 rfl rfl rfl ?_
  refine a_getc rfl (inC10 (i := 51) rfl rfl) (hw.va hi) ?_
  refine a_lenc rfl (hw.by hi) rfl ?_
  refine a_l0 rfl rfl rfl ?_
  refine a_eK1 rfl lJ0_335 mo_J0_coder_7d493 (q_coder hw hi) rfl rfl rfl (hw.so hi) rfl ?_
  refine a_s rfl rfl ?_
  refine a_top (y := nI (wLen i)) ?_ ?_
  · have h : ∀ i, i < 27 → nI (wLen i) >>> (0 &&& 31) = nI (wLen i) := by decide +kernel
    exact h i hi
  · exact a_iret rfl rfl ⟨rfl, rfl⟩
theorem q_chk3 {h : aH} {j n : Nat} (hj : j < n) (hn : n < 2 ^ 31) : SpE S m_J3_checkIndex_8e157 12 [.int (nI j), .int (nI n), .ref 191] h (some (.int (nI j))) h := by
  refine SpE_of ok_J3_checkIndex_8e157 rfl rfl ?_
  show AW S m_J3_checkIndex_8e157 12 _ _ 0 0 0 [some (.int (nI j)), some (.int (nI n)), some (.ref 191)] [] h
  refine a_l0 rfl rfl rfl ?_
  refine a_if_lt rfl (fun c => absurd c (nI_pos (by omega))) (fun _ => ?_)
  refine a_l0 rfl rfl rfl ?_
  refine a_l1 rfl rfl rfl ?_
  refine a_ic_lt rfl (fun _ => ?_) (fun c => absurd (nI_ltu hj hn) c)
  refine a_l0 rfl rfl rfl ?_
  exact a_iret rfl rfl ⟨rfl, rfl⟩
theorem q_chk3n {h : aH} {j n : Nat} (hj : j < n) (hn : n < 2 ^ 31) : SpE S m_J3_checkIndex_8e157 12 [.int (nI j), .int (nI n), .null] h (some (.int (nI j))) h := by
  refine SpE_of ok_J3_checkIndex_8e157 rfl rfl ?_
  show AW S m_J3_checkIndex_8e157 12 _ _ 0 0 0 [some (.int (nI j)), some (.int (nI n)), some (.null)] [] h
  refine a_l0 rfl rfl rfl ?_
  refine a_if_lt rfl (fun c => absurd c (nI_pos (by omega))) (fun _ => ?_)
  refine a_l0 rfl rfl rfl ?_
  refine a_l1 rfl rfl rfl ?_
  refine a_ic_lt rfl (fun _ => ?_) (fun c => absurd (nI_ltu hj hn) c)
  refine a_l0 rfl rfl rfl ?_
  exact a_iret rfl rfl ⟨rfl, rfl⟩
theorem q_chk0 {h : aH} (hw : WdS S) {j n : Nat} (hj : j < n) (hn : n < 2 ^ 31) : SpE S m_J0_checkIndex_df160 13 [.int (nI j), .int (nI n)] h none h := by
  refine SpE_of ok_J0_checkIndex_df160 rfl rfl ?_
  show AW S m_J0_checkIndex_df160 13 _ _ 0 0 0 [some (.int (nI j)), some (.int (nI n))] [] h
  obtain ⟨v, rfl | rfl, hm⟩ := hw.sf
  · refine a_l0 rfl rfl rfl ?_
    refine a_l1 rfl rfl rfl ?_
    refine a_gets rfl (inC4 (i := 30) rfl rfl) hm ?_
    refine a_eS1 rfl lJ0_1059 mo_J3_checkIndex_8e157 (q_chk3n hj hn) rfl rfl rfl rfl ?_
    refine a_s rfl rfl ?_
    exact a_vret rfl rfl ⟨rfl, rfl⟩
  · refine a_l0 rfl rfl rfl ?_
    refine a_l1 rfl rfl rfl ?_
    refine a_gets rfl (inC4 (i := 30) rfl rfl) hm ?_
    refine a_eS1 rfl lJ0_1059 mo_J3_checkIndex_8e157 (q_chk3 hj hn) rfl rfl rfl rfl ?_
    refine a_s rfl rfl ?_
    exact a_vret rfl rfl ⟨rfl, rfl⟩
theorem wLen_lt : ∀ i, i < 27 → wLen i < 2 ^ 31 := by decide +kernel
theorem q_chL {h : aH} (hw : WdS S) {i j : Nat} (hi : i < 27) (hj : j < wLen i) : SpE S m_J1_charAt_3b067 14 [.ref (160 + i), .int (nI j)] h (some (.int (wC i j))) h := by
  refine SpE_of ok_J1_charAt_3b067 rfl rfl ?_
  show AW S m_J1_charAt_3b067 14 _ _ 0 0 0 [some (.ref (160 + i)), some (.int (nI j))] [] h
  have hn := wLen_lt i hi
  obtain ⟨b, b1, b2, b3, b4⟩ := wC_ok i hi j hj
  refine a_l1 rfl rfl rfl ?_
  refine a_l0 rfl rfl rfl ?_
  refine a_lenc rfl (hw.by hi) rfl ?_
  refine a_eS0 rfl lJ1_9 mo_J0_checkIndex_df160 (q_chk0 hw hj hn) rfl rfl rfl rfl ?_
  refine a_l0 rfl rfl rfl ?_
  refine a_l1 rfl rfl rfl ?_
  refine a_baldc rfl (hw.by hi) (inI_nI hj hn) ?_
  refine a_top (y := wC i j) (by rw [nI_clamp (by omega)]) ?_
  refine a_s rfl rfl ?_
  refine a_s rfl rfl ?_
  refine a_i2c rfl b4 ?_
  exact a_cret rfl rfl (nr_char b (by omega)) ⟨by rw [b3], rfl⟩
theorem q_charAt {h : aH} (hw : WdS S) {i j : Nat} (hi : i < 27) (hj : j < wLen i) : SpE S m_J0_charAt_5068e 15 [.ref (130 + i), .int (nI j)] h (some (.int (wC i j))) h := by
  refine SpE_of ok_J0_charAt_5068e rfl rfl ?_
  show AW S m_J0_charAt_5068e 15 _ _ 0 0 0 [some (.ref (130 + i)), some (.int (nI j))] [] h
  obtain ⟨b, b1, b2, b3, b4⟩ := wC_ok i hi j hj
  refine a_l0 rfl rfl rfl ?_
  refine a_eK1 rfl lJ0_492 mo_J0_isLatin1_aae02 (q_isLatin1 hw hi) rfl rfl rfl (hw.so hi) rfl ?_
  refine a_if_eq rfl (fun c => absurd c (by decide)) (fun _ => ?_)
  refine a_l0 rfl rfl rfl ?_
  refine a_getc rfl (inC10 (i := 51) rfl rfl) (hw.va hi) ?_
  refine a_l1 rfl rfl rfl ?_
  refine a_eS1 rfl lJ0_495 mo_J1_charAt_3b067 (q_chL hw hi hj) rfl rfl rfl rfl ?_
  exact a_cret rfl rfl (by rw [b3]; exact nr_char b (by omega)) ⟨rfl, rfl⟩
end B56
/-- a word at hand: none, or one of all -/
def WK (w : Nat) : Prop := w = 0 ∨ ∃ i, i < 27 ∧ w = 100 + i + 1
theorem WK.nul : WK 0 := Or.inl rfl
theorem WK.con {i : Nat} (h : i < 27) : WK (100 + i + 1) := Or.inr ⟨i, h, rfl⟩
theorem WK.ck {S : aS} (hw : WdS S) {i : Nat} (h : i < 27) : 100 + i + 1 = 0 ∨ ∃ E, (100 + i + 1 - 1, E) ∈ S.2.1 := Or.inr ⟨_, by rw [Nat.add_sub_cancel]; exact hw.ob h⟩
theorem WK.ac {S : aS} {w : Nat} (h : WK w) (hw : WdS S) : w = 0 ∨ ∃ E, (w - 1, E) ∈ S.2.1 := by
  rcases h with h | ⟨i, hi, h⟩
  · exact Or.inl h
  · rw [h]
    exact WK.ck hw hi
abbrev QT (P : (Nat → Nat → Int32) → Prop) (z : Option Value → Prop) (L : Nat → Nat → Int64) (t : Nat) : Option Value → aH → Prop := fun v h' => z v ∧ ∃ I' w1' w2', h' = hp I' L w1' w2' t ∧ P I' ∧ WK w1' ∧ WK w2'
def XT (P : (Nat → Nat → Int32) → Prop) (L : Nat → Nat → Int64) (ks : List Nat) : String → aH → Prop := fun E h' => (∃ k, k ∈ ks ∧ E = exN k) ∧ ∃ I' w1' w2', h' = hp I' L w1' w2' 0 ∧ P I' ∧ WK w1' ∧ WK w2'
section C56
variable {S : aS} {C : aM} {d : Nat} {Q : Option Value → aH → Prop} {X : String → aH → Prop} {k1 k2 pc np tgt idx : Nat} {w : Int32} {ls : List (Option Value)} {st : List Value} {I : Nat → Nat → Int32} {L : Nat → Nat → Int64} {w1 w2 t q : Nat}
theorem a_putw1 (hC : look C pc = some (.putfield idx, np, tgt, w)) (hf : LPr C.1.cls C.1.name idx 9 9) (kk : AW S C d Q X k1 k2 np ls st (hp I L q w2 t)) : AW S C d Q X k1 k2 pc ls (rv q :: .ref 204 :: st) (hp I L w1 w2 t) := by
  refine a_putr hC hf rfl ?_
  rw [Rw_1]
  exact kk
theorem a_putw2 (hC : look C pc = some (.putfield idx, np, tgt, w)) (hf : LPr C.1.cls C.1.name idx 9 9) (kk : AW S C d Q X k1 k2 np ls st (hp I L w1 q t)) : AW S C d Q X k1 k2 pc ls (rv q :: .ref 221 :: st) (hp I L w1 w2 t) := by
  refine a_putr hC hf rfl ?_
  rw [Rw_2]
  exact kk
end C56
