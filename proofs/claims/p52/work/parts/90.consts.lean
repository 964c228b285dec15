/-! ===== the constants, for the parts of 3072 ints (printed by program) ===== -/
set_option maxRecDepth 100000
def wSi (i : Nat) : Nat := ([115, 121, 124, 127, 132, 135, 138, 141, 144, 147, 150, 153, 156, 159, 162, 165, 168, 171, 174, 177, 180, 183, 186, 189, 192, 195, 198] : List Nat).getD i 0
def S2 (LL : Nat) (xs : Nat → Int32) (fv : Value) : aS :=
  ((List.range 27).map (fun i => (RX10, wNm i, dWd, Value.ref (100 + i))) ++ [(RX9, "WORDS", "[LPutOffParade$Word;", Value.ref 190), (RJ0, "COMPACT_STRINGS", "Z", Value.int 1), (RJ3, "SIOOBE_FORMATTER", "Ljava/util/function/BiFunction;", fv)],
  (List.range 27).map (fun i => (100 + i, RX10)) ++ (List.range 27).map (fun i => (130 + i, RJ0)),
  (List.range 27).map (fun i => (100 + i, RX10, "text", "Ljava/lang/String;", Value.ref (130 + i))) ++ ((List.range 27).map (fun i => (100 + i, RX10, "part", "I", Value.int (wPa i))) ++ ((List.range 27).map (fun i => (130 + i, RJ0, "value", "[B", Value.ref (160 + i))) ++ (List.range 27).map (fun i => (130 + i, RJ0, "coder", "B", Value.int 0)))),
  (199, FieldType.int, LL, fun j => Value.int (xs j)) :: (190, FieldType.object RX10, 27, fun j => Value.ref (100 + j)) :: (List.range 27).map (fun i => (160 + i, FieldType.byte, wLen i, fun j => Value.int (wC i j))),
  (List.range 27).map (fun i => (RX12, wMi i, wTx i, 130 + i)),
  ncs)
theorem HdS_2 {LL : Nat} {xs : Nat → Int32} {fv : Value} (hf : fv = Value.null ∨ fv = Value.ref 191) : HdS (S2 LL xs fv) := by
  refine ⟨⟨fun i hi => ?_, ?_, ?_, ?_, fun i hi => ?_, fun i hi => ?_, fun i hi => ?_, fun i hi => ?_, fun i hi => ?_, fun i hi => ?_, ?_, fun i hi => ?_, fun i hi => ?_⟩, fun r hr => hr⟩
  · exact List.mem_append_left _ (List.mem_map.mpr ⟨i, List.mem_range.mpr hi, rfl⟩)
  · exact List.mem_append_right _ List.mem_cons_self
  · exact List.mem_append_right _ (List.mem_cons_of_mem _ List.mem_cons_self)
  · exact ⟨fv, hf, List.mem_append_right _ (List.mem_cons_of_mem _ (List.mem_cons_of_mem _ List.mem_cons_self))⟩
  · exact List.mem_append_left _ (List.mem_map.mpr ⟨i, List.mem_range.mpr hi, rfl⟩)
  · exact List.mem_append_right _ (List.mem_map.mpr ⟨i, List.mem_range.mpr hi, rfl⟩)
  · exact List.mem_append_left _ (List.mem_map.mpr ⟨i, List.mem_range.mpr hi, rfl⟩)
  · exact List.mem_append_right _ (List.mem_append_left _ (List.mem_map.mpr ⟨i, List.mem_range.mpr hi, rfl⟩))
  · exact List.mem_append_right _ (List.mem_append_right _ (List.mem_append_left _ (List.mem_map.mpr ⟨i, List.mem_range.mpr hi, rfl⟩)))
  · exact List.mem_append_right _ (List.mem_append_right _ (List.mem_append_right _ (List.mem_map.mpr ⟨i, List.mem_range.mpr hi, rfl⟩)))
  · exact List.mem_cons_of_mem _ List.mem_cons_self
  · exact List.mem_cons_of_mem _ (List.mem_cons_of_mem _ (List.mem_map.mpr ⟨i, List.mem_range.mpr hi, rfl⟩))
  · exact List.mem_map.mpr ⟨i, List.mem_range.mpr hi, rfl⟩
theorem ScM_2 {LL : Nat} {xs : Nat → Int32} {fv : Value} : ScM (S2 LL xs fv) LL xs := List.mem_cons_self
def tW (i : Nat) : Term := .static RX10 (wNm i) dWd
def tS (i : Nat) : Term := .string RX10 (wSi i)
def tV (i : Nat) : Term := .field (tS i) RJ0 "value" "[B"
def tR : Term := .static RX9 "WORDS" "[LPutOffParade$Word;"
/-- of the given conditions the one at a place -/
def cAt : List Bool → Cond → Cond
  | [], c => c
  | false :: p, .and a _ => cAt p a
  | true :: p, .and _ b => cAt p b
  | _, c => c
theorem cAt_b {args : Array Value} {s : State} : ∀ (p : List Bool) (T : Cond), T.before args s = true → (cAt p T).before args s = true := by
  intro p
  induction p with
  | nil => intro T h; exact h
  | cons z p ih =>
    intro T h
    cases T with
    | and a b =>
      have hab : a.before args s = true ∧ b.before args s = true := by
        rw [Cond.before_and, Bool.and_eq_true] at h
        exact h
      cases z with
      | false => exact ih a hab.1
      | true => exact ih b hab.2
    | _ => cases z <;> exact h
def inGv (c : Cond) : Prop := ∃ p, cAt p (Jvm.Cond.and given_1 narrow_1) = c
theorem inGv.b {args : Array Value} {s : State} {c : Cond} (h : (Jvm.Cond.and given_1 narrow_1).before args s = true) (hc : inGv c) : c.before args s = true := by
  obtain ⟨p, rfl⟩ := hc
  exact cAt_b p _ h
theorem g_ex : ∀ i, i < 27 → inGv (Cond.exactly (tW i) RX10) := by
  intro i hi
  rcases i with _ | _ | _ | _ | _ | _ | _ | _ | _ | _ | _ | _ | _ | _ | _ | _ | _ | _ | _ | _ | _ | _ | _ | _ | _ | _ | _ | i
  · exact ⟨[true, false, false, false, true, true, true, false, true, false], rfl⟩
  · exact ⟨[true, false, false, false, true, true, true, true, false, true, false], rfl⟩
  · exact ⟨[true, false, false, false, true, true, true, true, true, true, true], rfl⟩
  · exact ⟨[true, false, false, true, false, false, false, false, true, true, false], rfl⟩
  · exact ⟨[true, false, false, true, false, false, false, true, true, false], rfl⟩
  · exact ⟨[true, false, false, true, false, false, true, false, false, true], rfl⟩
  · exact ⟨[true, false, false, true, false, false, true, true, false, false], rfl⟩
  · exact ⟨[true, false, false, true, false, false, true, true, true, true, false], rfl⟩
  · exact ⟨[true, false, false, true, false, true, false, false, true, false], rfl⟩
  · exact ⟨[true, false, false, true, false, true, false, true, false, true], rfl⟩
  · exact ⟨[true, false, false, true, false, true, true, false, false, false], rfl⟩
  · exact ⟨[true, false, false, true, false, true, true, false, true, true, true], rfl⟩
  · exact ⟨[true, false, false, true, false, true, true, true, true, false], rfl⟩
  · exact ⟨[true, false, false, true, true, false, false, false, false, true], rfl⟩
  · exact ⟨[true, false, false, true, true, false, false, true, false, false], rfl⟩
  · exact ⟨[true, false, false, false, false, true, true, true, true, false], rfl⟩
  · exact ⟨[true, false, false, false, true, false, false, false, false, true], rfl⟩
  · exact ⟨[true, false, false, false, true, false, false, true, false, false], rfl⟩
  · exact ⟨[true, false, false, false, true, false, false, true, true, true, true], rfl⟩
  · exact ⟨[true, false, false, false, true, true, false, true, true, true, false], rfl⟩
  · exact ⟨[true, false, false, false, true, true, false, false, true, true, true], rfl⟩
  · exact ⟨[true, false, false, false, true, false, true, false, true, true, false], rfl⟩
  · exact ⟨[true, false, false, false, true, false, true, true, false, true, true], rfl⟩
  · exact ⟨[true, false, false, false, true, true, false, false, false, false], rfl⟩
  · exact ⟨[true, false, false, true, true, false, true, false, false, true], rfl⟩
  · exact ⟨[true, false, false, true, true, false, true, true, false, false], rfl⟩
  · exact ⟨[true, false, false, true, true, false, true, true, true, true, false], rfl⟩
  · omega
theorem g_or : ∀ i, i < 27 → inGv (Cond.eq (.field (tW i) "java/lang/Enum" "ordinal" "I") (.int (Int32.ofNat i))) := by
  intro i hi
  rcases i with _ | _ | _ | _ | _ | _ | _ | _ | _ | _ | _ | _ | _ | _ | _ | _ | _ | _ | _ | _ | _ | _ | _ | _ | _ | _ | _ | i
  · exact ⟨[true, false, false, false, true, true, true, false, true, true, false], rfl⟩
  · exact ⟨[true, false, false, false, true, true, true, true, false, true, true], rfl⟩
  · exact ⟨[true, false, false, true, false, false, false, false, false, false], rfl⟩
  · exact ⟨[true, false, false, true, false, false, false, false, true, true, true], rfl⟩
  · exact ⟨[true, false, false, true, false, false, false, true, true, true, false], rfl⟩
  · exact ⟨[true, false, false, true, false, false, true, false, true, false], rfl⟩
  · exact ⟨[true, false, false, true, false, false, true, true, false, true, false], rfl⟩
  · exact ⟨[true, false, false, true, false, false, true, true, true, true, true], rfl⟩
  · exact ⟨[true, false, false, true, false, true, false, false, true, true, false], rfl⟩
  · exact ⟨[true, false, false, true, false, true, false, true, true, false], rfl⟩
  · exact ⟨[true, false, false, true, false, true, true, false, false, true], rfl⟩
  · exact ⟨[true, false, false, true, false, true, true, true, false, false], rfl⟩
  · exact ⟨[true, false, false, true, false, true, true, true, true, true, false], rfl⟩
  · exact ⟨[true, false, false, true, true, false, false, false, true, false], rfl⟩
  · exact ⟨[true, false, false, true, true, false, false, true, false, true], rfl⟩
  · exact ⟨[true, false, false, false, false, true, true, true, true, true, false], rfl⟩
  · exact ⟨[true, false, false, false, true, false, false, false, true, false], rfl⟩
  · exact ⟨[true, false, false, false, true, false, false, true, false, true], rfl⟩
  · exact ⟨[true, false, false, false, true, false, true, false, false, false], rfl⟩
  · exact ⟨[true, false, false, false, true, true, false, true, true, true, true], rfl⟩
  · exact ⟨[true, false, false, false, true, true, false, true, false, false], rfl⟩
  · exact ⟨[true, false, false, false, true, false, true, false, true, true, true], rfl⟩
  · exact ⟨[true, false, false, false, true, false, true, true, true, false], rfl⟩
  · exact ⟨[true, false, false, false, true, true, false, false, false, true], rfl⟩
  · exact ⟨[true, false, false, true, true, false, true, false, true, false], rfl⟩
  · exact ⟨[true, false, false, true, true, false, true, true, false, true, false], rfl⟩
  · exact ⟨[true, false, false, true, true, false, true, true, true, true, true], rfl⟩
  · omega
theorem g_tx : ∀ i, i < 27 → inGv (Cond.eq (.field (tW i) RX10 "text" "Ljava/lang/String;") (tS i)) := by
  intro i hi
  rcases i with _ | _ | _ | _ | _ | _ | _ | _ | _ | _ | _ | _ | _ | _ | _ | _ | _ | _ | _ | _ | _ | _ | _ | _ | _ | _ | _ | i
  · exact ⟨[true, false, false, false, true, true, true, false, true, true, true], rfl⟩
  · exact ⟨[true, false, false, false, true, true, true, true, true, false], rfl⟩
  · exact ⟨[true, false, false, true, false, false, false, false, false, true], rfl⟩
  · exact ⟨[true, false, false, true, false, false, false, true, false, false], rfl⟩
  · exact ⟨[true, false, false, true, false, false, false, true, true, true, true], rfl⟩
  · exact ⟨[true, false, false, true, false, false, true, false, true, true, false], rfl⟩
  · exact ⟨[true, false, false, true, false, false, true, true, false, true, true], rfl⟩
  · exact ⟨[true, false, false, true, false, true, false, false, false, false], rfl⟩
  · exact ⟨[true, false, false, true, false, true, false, false, true, true, true], rfl⟩
  · exact ⟨[true, false, false, true, false, true, false, true, true, true, false], rfl⟩
  · exact ⟨[true, false, false, true, false, true, true, false, true, false], rfl⟩
  · exact ⟨[true, false, false, true, false, true, true, true, false, true, false], rfl⟩
  · exact ⟨[true, false, false, true, false, true, true, true, true, true, true], rfl⟩
  · exact ⟨[true, false, false, true, true, false, false, false, true, true, false], rfl⟩
  · exact ⟨[true, false, false, true, true, false, false, true, true, false], rfl⟩
  · exact ⟨[true, false, false, false, false, true, true, true, true, true, true], rfl⟩
  · exact ⟨[true, false, false, false, true, false, false, false, true, true, false], rfl⟩
  · exact ⟨[true, false, false, false, true, false, false, true, true, false], rfl⟩
  · exact ⟨[true, false, false, false, true, false, true, false, false, true], rfl⟩
  · exact ⟨[true, false, false, false, true, true, true, false, false, false], rfl⟩
  · exact ⟨[true, false, false, false, true, true, false, true, false, true], rfl⟩
  · exact ⟨[true, false, false, false, true, false, true, true, false, false], rfl⟩
  · exact ⟨[true, false, false, false, true, false, true, true, true, true, false], rfl⟩
  · exact ⟨[true, false, false, false, true, true, false, false, true, false], rfl⟩
  · exact ⟨[true, false, false, true, true, false, true, false, true, true, false], rfl⟩
  · exact ⟨[true, false, false, true, true, false, true, true, false, true, true], rfl⟩
  · exact ⟨[true, false, false, true, true, true, false, false, false, false], rfl⟩
  · omega
theorem g_pa : ∀ i, i < 27 → inGv (Cond.eq (.field (tW i) RX10 "part" "I") (.int (wPa i))) := by
  intro i hi
  rcases i with _ | _ | _ | _ | _ | _ | _ | _ | _ | _ | _ | _ | _ | _ | _ | _ | _ | _ | _ | _ | _ | _ | _ | _ | _ | _ | _ | i
  · exact ⟨[true, false, false, false, true, true, true, true, false, false], rfl⟩
  · exact ⟨[true, false, false, false, true, true, true, true, true, true, false], rfl⟩
  · exact ⟨[true, false, false, true, false, false, false, false, true, false], rfl⟩
  · exact ⟨[true, false, false, true, false, false, false, true, false, true], rfl⟩
  · exact ⟨[true, false, false, true, false, false, true, false, false, false], rfl⟩
  · exact ⟨[true, false, false, true, false, false, true, false, true, true, true], rfl⟩
  · exact ⟨[true, false, false, true, false, false, true, true, true, false], rfl⟩
  · exact ⟨[true, false, false, true, false, true, false, false, false, true], rfl⟩
  · exact ⟨[true, false, false, true, false, true, false, true, false, false], rfl⟩
  · exact ⟨[true, false, false, true, false, true, false, true, true, true, true], rfl⟩
  · exact ⟨[true, false, false, true, false, true, true, false, true, true, false], rfl⟩
  · exact ⟨[true, false, false, true, false, true, true, true, false, true, true], rfl⟩
  · exact ⟨[true, false, false, true, true, false, false, false, false, false], rfl⟩
  · exact ⟨[true, false, false, true, true, false, false, false, true, true, true], rfl⟩
  · exact ⟨[true, false, false, true, true, false, false, true, true, true, false], rfl⟩
  · exact ⟨[true, false, false, false, true, false, false, false, false, false], rfl⟩
  · exact ⟨[true, false, false, false, true, false, false, false, true, true, true], rfl⟩
  · exact ⟨[true, false, false, false, true, false, false, true, true, true, false], rfl⟩
  · exact ⟨[true, false, false, false, true, false, true, false, true, false], rfl⟩
  · exact ⟨[true, false, false, false, true, true, true, false, false, true], rfl⟩
  · exact ⟨[true, false, false, false, true, true, false, true, true, false], rfl⟩
  · exact ⟨[true, false, false, false, true, false, true, true, false, true, false], rfl⟩
  · exact ⟨[true, false, false, false, true, false, true, true, true, true, true], rfl⟩
  · exact ⟨[true, false, false, false, true, true, false, false, true, true, false], rfl⟩
  · exact ⟨[true, false, false, true, true, false, true, false, true, true, true], rfl⟩
  · exact ⟨[true, false, false, true, true, false, true, true, true, false], rfl⟩
  · exact ⟨[true, false, false, true, true, true, false, false, false, true], rfl⟩
  · omega
theorem g_el : ∀ i, i < 27 → inGv (Cond.eq (.elem tR (.int (Int32.ofNat i))) (tW i)) := by
  intro i hi
  rcases i with _ | _ | _ | _ | _ | _ | _ | _ | _ | _ | _ | _ | _ | _ | _ | _ | _ | _ | _ | _ | _ | _ | _ | _ | _ | _ | _ | i
  · exact ⟨[true, false, false, false, false, false, false, true, true, false], rfl⟩
  · exact ⟨[true, false, false, false, false, false, false, true, true, true, false], rfl⟩
  · exact ⟨[true, false, false, false, false, false, false, true, true, true, true], rfl⟩
  · exact ⟨[true, false, false, false, false, false, true, false, false, false], rfl⟩
  · exact ⟨[true, false, false, false, false, false, true, false, false, true], rfl⟩
  · exact ⟨[true, false, false, false, false, false, true, false, true, false], rfl⟩
  · exact ⟨[true, false, false, false, false, false, true, false, true, true, false], rfl⟩
  · exact ⟨[true, false, false, false, false, false, true, false, true, true, true], rfl⟩
  · exact ⟨[true, false, false, false, false, false, true, true, false, false], rfl⟩
  · exact ⟨[true, false, false, false, false, false, true, true, false, true, false], rfl⟩
  · exact ⟨[true, false, false, false, false, false, true, true, false, true, true], rfl⟩
  · exact ⟨[true, false, false, false, false, false, true, true, true, false], rfl⟩
  · exact ⟨[true, false, false, false, false, false, true, true, true, true, false], rfl⟩
  · exact ⟨[true, false, false, false, false, false, true, true, true, true, true], rfl⟩
  · exact ⟨[true, false, false, false, false, true, false, false, false, false], rfl⟩
  · exact ⟨[true, false, false, false, false, true, false, false, false, true], rfl⟩
  · exact ⟨[true, false, false, false, false, true, false, false, true, false], rfl⟩
  · exact ⟨[true, false, false, false, false, true, false, false, true, true, false], rfl⟩
  · exact ⟨[true, false, false, false, false, true, false, false, true, true, true], rfl⟩
  · exact ⟨[true, false, false, false, false, true, false, true, false, false], rfl⟩
  · exact ⟨[true, false, false, false, false, true, false, true, false, true], rfl⟩
  · exact ⟨[true, false, false, false, false, true, false, true, true, false], rfl⟩
  · exact ⟨[true, false, false, false, false, true, false, true, true, true, false], rfl⟩
  · exact ⟨[true, false, false, false, false, true, false, true, true, true, true], rfl⟩
  · exact ⟨[true, false, false, false, false, true, true, false, false, false], rfl⟩
  · exact ⟨[true, false, false, false, false, true, true, false, false, true], rfl⟩
  · exact ⟨[true, false, false, false, false, true, true, false, true, false], rfl⟩
  · omega
theorem g_se : ∀ i, i < 27 → inGv (Cond.exactly (tS i) RJ0) := by
  intro i hi
  rcases i with _ | _ | _ | _ | _ | _ | _ | _ | _ | _ | _ | _ | _ | _ | _ | _ | _ | _ | _ | _ | _ | _ | _ | _ | _ | _ | _ | i
  · exact ⟨[true, true, true, false, false, false, false, true, false, true], rfl⟩
  · exact ⟨[true, true, true, false, false, false, true, true, false, true, true], rfl⟩
  · exact ⟨[true, true, true, false, false, true, false, false, true, true, false], rfl⟩
  · exact ⟨[true, true, true, false, false, true, true, false, true, false], rfl⟩
  · exact ⟨[true, true, true, false, true, false, false, false, false, false], rfl⟩
  · exact ⟨[true, true, true, false, true, false, false, true, true, false], rfl⟩
  · exact ⟨[true, true, true, false, true, false, true, true, false, true, true], rfl⟩
  · exact ⟨[true, true, true, false, true, true, false, false, true, true, true], rfl⟩
  · exact ⟨[true, true, true, false, true, true, true, false, true, false], rfl⟩
  · exact ⟨[true, true, true, false, true, true, true, true, true, true, false], rfl⟩
  · exact ⟨[true, true, true, true, false, false, true, false, true, false], rfl⟩
  · exact ⟨[true, true, true, true, false, false, true, true, true, true, true], rfl⟩
  · exact ⟨[true, true, true, true, false, true, false, true, true, true, false], rfl⟩
  · exact ⟨[true, true, true, true, false, true, true, true, true, false], rfl⟩
  · exact ⟨[true, true, true, true, true, false, false, true, false, false], rfl⟩
  · exact ⟨[true, true, false, true, false, false, true, true, false, false], rfl⟩
  · exact ⟨[true, true, false, true, false, true, false, false, true, true, false], rfl⟩
  · exact ⟨[true, true, false, true, false, true, true, false, true, true, false], rfl⟩
  · exact ⟨[true, true, false, true, true, false, false, false, false, true], rfl⟩
  · exact ⟨[true, true, false, true, true, true, true, true, true, true, true], rfl⟩
  · exact ⟨[true, true, false, true, true, true, true, false, true, false], rfl⟩
  · exact ⟨[true, true, false, true, true, false, false, true, true, true, false], rfl⟩
  · exact ⟨[true, true, false, true, true, false, true, true, false, true, false], rfl⟩
  · exact ⟨[true, true, false, true, true, true, false, true, false, false], rfl⟩
  · exact ⟨[true, true, true, true, true, false, true, true, false, false], rfl⟩
  · exact ⟨[true, true, true, true, true, true, false, false, true, true, false], rfl⟩
  · exact ⟨[true, true, true, true, true, true, true, false, true, false], rfl⟩
  · omega
theorem g_co : ∀ i, i < 27 → inGv (Cond.eq (.field (tS i) RJ0 "coder" "B") (.int 0)) := by
  intro i hi
  rcases i with _ | _ | _ | _ | _ | _ | _ | _ | _ | _ | _ | _ | _ | _ | _ | _ | _ | _ | _ | _ | _ | _ | _ | _ | _ | _ | _ | i
  · exact ⟨[true, true, true, false, false, false, false, true, true, false], rfl⟩
  · exact ⟨[true, true, true, false, false, false, true, true, true, false], rfl⟩
  · exact ⟨[true, true, true, false, false, true, false, false, true, true, true], rfl⟩
  · exact ⟨[true, true, true, false, false, true, true, false, true, true, false], rfl⟩
  · exact ⟨[true, true, true, false, true, false, false, false, false, true], rfl⟩
  · exact ⟨[true, true, true, false, true, false, false, true, true, true, false], rfl⟩
  · exact ⟨[true, true, true, false, true, false, true, true, true, false], rfl⟩
  · exact ⟨[true, true, true, false, true, true, false, true, false, false], rfl⟩
  · exact ⟨[true, true, true, false, true, true, true, false, true, true, false], rfl⟩
  · exact ⟨[true, true, true, false, true, true, true, true, true, true, true], rfl⟩
  · exact ⟨[true, true, true, true, false, false, true, false, true, true, false], rfl⟩
  · exact ⟨[true, true, true, true, false, true, false, false, false, false], rfl⟩
  · exact ⟨[true, true, true, true, false, true, false, true, true, true, true], rfl⟩
  · exact ⟨[true, true, true, true, false, true, true, true, true, true, false], rfl⟩
  · exact ⟨[true, true, true, true, true, false, false, true, false, true], rfl⟩
  · exact ⟨[true, true, false, true, false, false, true, true, false, true, false], rfl⟩
  · exact ⟨[true, true, false, true, false, true, false, false, true, true, true], rfl⟩
  · exact ⟨[true, true, false, true, false, true, true, false, true, true, true], rfl⟩
  · exact ⟨[true, true, false, true, true, false, false, false, true, false], rfl⟩
  · exact ⟨[true, true, true, false, false, false, false, false, false, false], rfl⟩
  · exact ⟨[true, true, false, true, true, true, true, false, true, true, false], rfl⟩
  · exact ⟨[true, true, false, true, true, false, false, true, true, true, true], rfl⟩
  · exact ⟨[true, true, false, true, true, false, true, true, false, true, true], rfl⟩
  · exact ⟨[true, true, false, true, true, true, false, true, false, true, false], rfl⟩
  · exact ⟨[true, true, true, true, true, false, true, true, false, true, false], rfl⟩
  · exact ⟨[true, true, true, true, true, true, false, false, true, true, true], rfl⟩
  · exact ⟨[true, true, true, true, true, true, true, false, true, true, false], rfl⟩
  · omega
theorem g_ar : ∀ i, i < 27 → inGv (Cond.arrayOf (tV i) .byte) := by
  intro i hi
  rcases i with _ | _ | _ | _ | _ | _ | _ | _ | _ | _ | _ | _ | _ | _ | _ | _ | _ | _ | _ | _ | _ | _ | _ | _ | _ | _ | _ | i
  · exact ⟨[true, true, true, false, false, false, false, true, true, true, false], rfl⟩
  · exact ⟨[true, true, true, false, false, false, true, true, true, true, false], rfl⟩
  · exact ⟨[true, true, true, false, false, true, false, true, false, false], rfl⟩
  · exact ⟨[true, true, true, false, false, true, true, false, true, true, true], rfl⟩
  · exact ⟨[true, true, true, false, true, false, false, false, true, false], rfl⟩
  · exact ⟨[true, true, true, false, true, false, false, true, true, true, true], rfl⟩
  · exact ⟨[true, true, true, false, true, false, true, true, true, true, false], rfl⟩
  · exact ⟨[true, true, true, false, true, true, false, true, false, true, false], rfl⟩
  · exact ⟨[true, true, true, false, true, true, true, false, true, true, true], rfl⟩
  · exact ⟨[true, true, true, true, false, false, false, false, false, false], rfl⟩
  · exact ⟨[true, true, true, true, false, false, true, false, true, true, true], rfl⟩
  · exact ⟨[true, true, true, true, false, true, false, false, false, true], rfl⟩
  · exact ⟨[true, true, true, true, false, true, true, false, false, false], rfl⟩
  · exact ⟨[true, true, true, true, false, true, true, true, true, true, true], rfl⟩
  · exact ⟨[true, true, true, true, true, false, false, true, true, false], rfl⟩
  · exact ⟨[true, true, false, true, false, false, true, true, false, true, true], rfl⟩
  · exact ⟨[true, true, false, true, false, true, false, true, false, false], rfl⟩
  · exact ⟨[true, true, false, true, false, true, true, true, false, false], rfl⟩
  · exact ⟨[true, true, false, true, true, false, false, false, true, true, false], rfl⟩
  · exact ⟨[true, true, true, false, false, false, false, false, false, true], rfl⟩
  · exact ⟨[true, true, false, true, true, true, true, false, true, true, true], rfl⟩
  · exact ⟨[true, true, false, true, true, false, true, false, false, false], rfl⟩
  · exact ⟨[true, true, false, true, true, false, true, true, true, false], rfl⟩
  · exact ⟨[true, true, false, true, true, true, false, true, false, true, true], rfl⟩
  · exact ⟨[true, true, true, true, true, false, true, true, false, true, true], rfl⟩
  · exact ⟨[true, true, true, true, true, true, false, true, false, false], rfl⟩
  · exact ⟨[true, true, true, true, true, true, true, false, true, true, true], rfl⟩
  · omega
theorem g_le : ∀ i, i < 27 → inGv (Cond.eq (.length (tV i)) (.int (Int32.ofNat (wLen i)))) := by
  intro i hi
  rcases i with _ | _ | _ | _ | _ | _ | _ | _ | _ | _ | _ | _ | _ | _ | _ | _ | _ | _ | _ | _ | _ | _ | _ | _ | _ | _ | _ | i
  · exact ⟨[true, true, true, false, false, false, false, true, true, true, true], rfl⟩
  · exact ⟨[true, true, true, false, false, false, true, true, true, true, true], rfl⟩
  · exact ⟨[true, true, true, false, false, true, false, true, false, true], rfl⟩
  · exact ⟨[true, true, true, false, false, true, true, true, false, false], rfl⟩
  · exact ⟨[true, true, true, false, true, false, false, false, true, true, false], rfl⟩
  · exact ⟨[true, true, true, false, true, false, true, false, false, false], rfl⟩
  · exact ⟨[true, true, true, false, true, false, true, true, true, true, true], rfl⟩
  · exact ⟨[true, true, true, false, true, true, false, true, false, true, true], rfl⟩
  · exact ⟨[true, true, true, false, true, true, true, true, false, false], rfl⟩
  · exact ⟨[true, true, true, true, false, false, false, false, false, true], rfl⟩
  · exact ⟨[true, true, true, true, false, false, true, true, false, false], rfl⟩
  · exact ⟨[true, true, true, true, false, true, false, false, true, false], rfl⟩
  · exact ⟨[true, true, true, true, false, true, true, false, false, true], rfl⟩
  · exact ⟨[true, true, true, true, true, false, false, false, false, false], rfl⟩
  · exact ⟨[true, true, true, true, true, false, false, true, true, true, false], rfl⟩
  · exact ⟨[true, true, false, true, false, false, true, true, true, false], rfl⟩
  · exact ⟨[true, true, false, true, false, true, false, true, false, true], rfl⟩
  · exact ⟨[true, true, false, true, false, true, true, true, false, true, false], rfl⟩
  · exact ⟨[true, true, false, true, true, false, false, false, true, true, true], rfl⟩
  · exact ⟨[true, true, true, false, false, false, false, false, true, false], rfl⟩
  · exact ⟨[true, true, false, true, true, true, true, true, false, false], rfl⟩
  · exact ⟨[true, true, false, true, true, false, true, false, false, true], rfl⟩
  · exact ⟨[true, true, false, true, true, false, true, true, true, true, false], rfl⟩
  · exact ⟨[true, true, false, true, true, true, false, true, true, false], rfl⟩
  · exact ⟨[true, true, true, true, true, false, true, true, true, false], rfl⟩
  · exact ⟨[true, true, true, true, true, true, false, true, false, true, false], rfl⟩
  · exact ⟨[true, true, true, true, true, true, true, true, false, false], rfl⟩
  · omega
theorem g_mi : ∀ i, i < 27 → inGv (Cond.eq (.string RX12 (wMi i)) (tS i)) := by
  intro i hi
  rcases i with _ | _ | _ | _ | _ | _ | _ | _ | _ | _ | _ | _ | _ | _ | _ | _ | _ | _ | _ | _ | _ | _ | _ | _ | _ | _ | _ | i
  · exact ⟨[true, true, true, false, false, false, true, true, false, true, false], rfl⟩
  · exact ⟨[true, true, true, false, false, true, false, false, true, false], rfl⟩
  · exact ⟨[true, true, true, false, false, true, true, false, false, true], rfl⟩
  · exact ⟨[true, true, true, false, false, true, true, true, true, true, true], rfl⟩
  · exact ⟨[true, true, true, false, true, false, false, true, false, true], rfl⟩
  · exact ⟨[true, true, true, false, true, false, true, true, false, true, false], rfl⟩
  · exact ⟨[true, true, true, false, true, true, false, false, true, true, false], rfl⟩
  · exact ⟨[true, true, true, false, true, true, true, false, false, true], rfl⟩
  · exact ⟨[true, true, true, false, true, true, true, true, true, false], rfl⟩
  · exact ⟨[true, true, true, true, false, false, true, false, false, true], rfl⟩
  · exact ⟨[true, true, true, true, false, false, true, true, true, true, false], rfl⟩
  · exact ⟨[true, true, true, true, false, true, false, true, true, false], rfl⟩
  · exact ⟨[true, true, true, true, false, true, true, true, false, true, true], rfl⟩
  · exact ⟨[true, true, true, true, true, false, false, false, true, true, true], rfl⟩
  · exact ⟨[true, true, true, true, true, false, true, false, true, true, true], rfl⟩
  · exact ⟨[true, true, false, true, false, true, false, false, true, false], rfl⟩
  · exact ⟨[true, true, false, true, false, true, true, false, true, false], rfl⟩
  · exact ⟨[true, true, false, true, true, false, false, false, false, false], rfl⟩
  · exact ⟨[true, true, false, true, true, false, false, true, true, false], rfl⟩
  · exact ⟨[true, true, true, false, false, false, false, true, false, false], rfl⟩
  · exact ⟨[true, true, false, true, true, true, true, true, true, true, false], rfl⟩
  · exact ⟨[true, true, false, true, true, false, true, true, false, false], rfl⟩
  · exact ⟨[true, true, false, true, true, true, false, false, true, true, true], rfl⟩
  · exact ⟨[true, true, false, true, true, true, true, false, false, true], rfl⟩
  · exact ⟨[true, true, true, true, true, true, false, false, true, false], rfl⟩
  · exact ⟨[true, true, true, true, true, true, true, false, false, true], rfl⟩
  · exact ⟨[true, true, true, true, true, true, true, true, true, true, true], rfl⟩
  · omega
theorem g_by0 : ∀ j, j < wLen 0 → inGv (Cond.eq (.elem (tV 0) (.int (Int32.ofNat j))) (.int (wC 0 j))) := by
  intro j hj
  have hl : wLen 0 = 6 := rfl
  rcases j with _ | _ | _ | _ | _ | _ | j
  · exact ⟨[true, true, true, false, false, false, true, false, false, false], rfl⟩
  · exact ⟨[true, true, true, false, false, false, true, false, false, true], rfl⟩
  · exact ⟨[true, true, true, false, false, false, true, false, true, false], rfl⟩
  · exact ⟨[true, true, true, false, false, false, true, false, true, true, false], rfl⟩
  · exact ⟨[true, true, true, false, false, false, true, false, true, true, true], rfl⟩
  · exact ⟨[true, true, true, false, false, false, true, true, false, false], rfl⟩
  · omega
theorem g_by1 : ∀ j, j < wLen 1 → inGv (Cond.eq (.elem (tV 1) (.int (Int32.ofNat j))) (.int (wC 1 j))) := by
  intro j hj
  have hl : wLen 1 = 2 := rfl
  rcases j with _ | _ | j
  · exact ⟨[true, true, true, false, false, true, false, false, false, false], rfl⟩
  · exact ⟨[true, true, true, false, false, true, false, false, false, true], rfl⟩
  · omega
theorem g_by2 : ∀ j, j < wLen 2 → inGv (Cond.eq (.elem (tV 2) (.int (Int32.ofNat j))) (.int (wC 2 j))) := by
  intro j hj
  have hl : wLen 2 = 4 := rfl
  rcases j with _ | _ | _ | _ | j
  · exact ⟨[true, true, true, false, false, true, false, true, true, false], rfl⟩
  · exact ⟨[true, true, true, false, false, true, false, true, true, true, false], rfl⟩
  · exact ⟨[true, true, true, false, false, true, false, true, true, true, true], rfl⟩
  · exact ⟨[true, true, true, false, false, true, true, false, false, false], rfl⟩
  · omega
theorem g_by3 : ∀ j, j < wLen 3 → inGv (Cond.eq (.elem (tV 3) (.int (Int32.ofNat j))) (.int (wC 3 j))) := by
  intro j hj
  have hl : wLen 3 = 4 := rfl
  rcases j with _ | _ | _ | _ | j
  · exact ⟨[true, true, true, false, false, true, true, true, false, true, false], rfl⟩
  · exact ⟨[true, true, true, false, false, true, true, true, false, true, true], rfl⟩
  · exact ⟨[true, true, true, false, false, true, true, true, true, false], rfl⟩
  · exact ⟨[true, true, true, false, false, true, true, true, true, true, false], rfl⟩
  · omega
theorem g_by4 : ∀ j, j < wLen 4 → inGv (Cond.eq (.elem (tV 4) (.int (Int32.ofNat j))) (.int (wC 4 j))) := by
  intro j hj
  have hl : wLen 4 = 2 := rfl
  rcases j with _ | _ | j
  · exact ⟨[true, true, true, false, true, false, false, false, true, true, true], rfl⟩
  · exact ⟨[true, true, true, false, true, false, false, true, false, false], rfl⟩
  · omega
theorem g_by5 : ∀ j, j < wLen 5 → inGv (Cond.eq (.elem (tV 5) (.int (Int32.ofNat j))) (.int (wC 5 j))) := by
  intro j hj
  have hl : wLen 5 = 5 := rfl
  rcases j with _ | _ | _ | _ | _ | j
  · exact ⟨[true, true, true, false, true, false, true, false, false, true], rfl⟩
  · exact ⟨[true, true, true, false, true, false, true, false, true, false], rfl⟩
  · exact ⟨[true, true, true, false, true, false, true, false, true, true, false], rfl⟩
  · exact ⟨[true, true, true, false, true, false, true, false, true, true, true], rfl⟩
  · exact ⟨[true, true, true, false, true, false, true, true, false, false], rfl⟩
  · omega
theorem g_by6 : ∀ j, j < wLen 6 → inGv (Cond.eq (.elem (tV 6) (.int (Int32.ofNat j))) (.int (wC 6 j))) := by
  intro j hj
  have hl : wLen 6 = 3 := rfl
  rcases j with _ | _ | _ | j
  · exact ⟨[true, true, true, false, true, true, false, false, false, false], rfl⟩
  · exact ⟨[true, true, true, false, true, true, false, false, false, true], rfl⟩
  · exact ⟨[true, true, true, false, true, true, false, false, true, false], rfl⟩
  · omega
theorem g_by7 : ∀ j, j < wLen 7 → inGv (Cond.eq (.elem (tV 7) (.int (Int32.ofNat j))) (.int (wC 7 j))) := by
  intro j hj
  have hl : wLen 7 = 4 := rfl
  rcases j with _ | _ | _ | _ | j
  · exact ⟨[true, true, true, false, true, true, false, true, true, false], rfl⟩
  · exact ⟨[true, true, true, false, true, true, false, true, true, true, false], rfl⟩
  · exact ⟨[true, true, true, false, true, true, false, true, true, true, true], rfl⟩
  · exact ⟨[true, true, true, false, true, true, true, false, false, false], rfl⟩
  · omega
theorem g_by8 : ∀ j, j < wLen 8 → inGv (Cond.eq (.elem (tV 8) (.int (Int32.ofNat j))) (.int (wC 8 j))) := by
  intro j hj
  have hl : wLen 8 = 2 := rfl
  rcases j with _ | _ | j
  · exact ⟨[true, true, true, false, true, true, true, true, false, true, false], rfl⟩
  · exact ⟨[true, true, true, false, true, true, true, true, false, true, true], rfl⟩
  · omega
theorem g_by9 : ∀ j, j < wLen 9 → inGv (Cond.eq (.elem (tV 9) (.int (Int32.ofNat j))) (.int (wC 9 j))) := by
  intro j hj
  have hl : wLen 9 = 9 := rfl
  rcases j with _ | _ | _ | _ | _ | _ | _ | _ | _ | j
  · exact ⟨[true, true, true, true, false, false, false, false, true, false], rfl⟩
  · exact ⟨[true, true, true, true, false, false, false, false, true, true, false], rfl⟩
  · exact ⟨[true, true, true, true, false, false, false, false, true, true, true], rfl⟩
  · exact ⟨[true, true, true, true, false, false, false, true, false, false], rfl⟩
  · exact ⟨[true, true, true, true, false, false, false, true, false, true], rfl⟩
  · exact ⟨[true, true, true, true, false, false, false, true, true, false], rfl⟩
  · exact ⟨[true, true, true, true, false, false, false, true, true, true, false], rfl⟩
  · exact ⟨[true, true, true, true, false, false, false, true, true, true, true], rfl⟩
  · exact ⟨[true, true, true, true, false, false, true, false, false, false], rfl⟩
  · omega
theorem g_by10 : ∀ j, j < wLen 10 → inGv (Cond.eq (.elem (tV 10) (.int (Int32.ofNat j))) (.int (wC 10 j))) := by
  intro j hj
  have hl : wLen 10 = 3 := rfl
  rcases j with _ | _ | _ | j
  · exact ⟨[true, true, true, true, false, false, true, true, false, true, false], rfl⟩
  · exact ⟨[true, true, true, true, false, false, true, true, false, true, true], rfl⟩
  · exact ⟨[true, true, true, true, false, false, true, true, true, false], rfl⟩
  · omega
theorem g_by11 : ∀ j, j < wLen 11 → inGv (Cond.eq (.elem (tV 11) (.int (Int32.ofNat j))) (.int (wC 11 j))) := by
  intro j hj
  have hl : wLen 11 = 4 := rfl
  rcases j with _ | _ | _ | _ | j
  · exact ⟨[true, true, true, true, false, true, false, false, true, true, false], rfl⟩
  · exact ⟨[true, true, true, true, false, true, false, false, true, true, true], rfl⟩
  · exact ⟨[true, true, true, true, false, true, false, true, false, false], rfl⟩
  · exact ⟨[true, true, true, true, false, true, false, true, false, true], rfl⟩
  · omega
theorem g_by12 : ∀ j, j < wLen 12 → inGv (Cond.eq (.elem (tV 12) (.int (Int32.ofNat j))) (.int (wC 12 j))) := by
  intro j hj
  have hl : wLen 12 = 5 := rfl
  rcases j with _ | _ | _ | _ | _ | j
  · exact ⟨[true, true, true, true, false, true, true, false, true, false], rfl⟩
  · exact ⟨[true, true, true, true, false, true, true, false, true, true, false], rfl⟩
  · exact ⟨[true, true, true, true, false, true, true, false, true, true, true], rfl⟩
  · exact ⟨[true, true, true, true, false, true, true, true, false, false], rfl⟩
  · exact ⟨[true, true, true, true, false, true, true, true, false, true, false], rfl⟩
  · omega
theorem g_by13 : ∀ j, j < wLen 13 → inGv (Cond.eq (.elem (tV 13) (.int (Int32.ofNat j))) (.int (wC 13 j))) := by
  intro j hj
  have hl : wLen 13 = 3 := rfl
  rcases j with _ | _ | _ | j
  · exact ⟨[true, true, true, true, true, false, false, false, false, true], rfl⟩
  · exact ⟨[true, true, true, true, true, false, false, false, true, false], rfl⟩
  · exact ⟨[true, true, true, true, true, false, false, false, true, true, false], rfl⟩
  · omega
theorem g_by14 : ∀ j, j < wLen 14 → inGv (Cond.eq (.elem (tV 14) (.int (Int32.ofNat j))) (.int (wC 14 j))) := by
  intro j hj
  have hl : wLen 14 = 5 := rfl
  rcases j with _ | _ | _ | _ | _ | j
  · exact ⟨[true, true, true, true, true, false, false, true, true, true, true], rfl⟩
  · exact ⟨[true, true, true, true, true, false, true, false, false, false], rfl⟩
  · exact ⟨[true, true, true, true, true, false, true, false, false, true], rfl⟩
  · exact ⟨[true, true, true, true, true, false, true, false, true, false], rfl⟩
  · exact ⟨[true, true, true, true, true, false, true, false, true, true, false], rfl⟩
  · omega
theorem g_by15 : ∀ j, j < wLen 15 → inGv (Cond.eq (.elem (tV 15) (.int (Int32.ofNat j))) (.int (wC 15 j))) := by
  intro j hj
  have hl : wLen 15 = 4 := rfl
  rcases j with _ | _ | _ | _ | j
  · exact ⟨[true, true, false, true, false, false, true, true, true, true, false], rfl⟩
  · exact ⟨[true, true, false, true, false, false, true, true, true, true, true], rfl⟩
  · exact ⟨[true, true, false, true, false, true, false, false, false, false], rfl⟩
  · exact ⟨[true, true, false, true, false, true, false, false, false, true], rfl⟩
  · omega
theorem g_by16 : ∀ j, j < wLen 16 → inGv (Cond.eq (.elem (tV 16) (.int (Int32.ofNat j))) (.int (wC 16 j))) := by
  intro j hj
  have hl : wLen 16 = 5 := rfl
  rcases j with _ | _ | _ | _ | _ | j
  · exact ⟨[true, true, false, true, false, true, false, true, true, false], rfl⟩
  · exact ⟨[true, true, false, true, false, true, false, true, true, true, false], rfl⟩
  · exact ⟨[true, true, false, true, false, true, false, true, true, true, true], rfl⟩
  · exact ⟨[true, true, false, true, false, true, true, false, false, false], rfl⟩
  · exact ⟨[true, true, false, true, false, true, true, false, false, true], rfl⟩
  · omega
theorem g_by17 : ∀ j, j < wLen 17 → inGv (Cond.eq (.elem (tV 17) (.int (Int32.ofNat j))) (.int (wC 17 j))) := by
  intro j hj
  have hl : wLen 17 = 4 := rfl
  rcases j with _ | _ | _ | _ | j
  · exact ⟨[true, true, false, true, false, true, true, true, false, true, true], rfl⟩
  · exact ⟨[true, true, false, true, false, true, true, true, true, false], rfl⟩
  · exact ⟨[true, true, false, true, false, true, true, true, true, true, false], rfl⟩
  · exact ⟨[true, true, false, true, false, true, true, true, true, true, true], rfl⟩
  · omega
theorem g_by18 : ∀ j, j < wLen 18 → inGv (Cond.eq (.elem (tV 18) (.int (Int32.ofNat j))) (.int (wC 18 j))) := by
  intro j hj
  have hl : wLen 18 = 2 := rfl
  rcases j with _ | _ | j
  · exact ⟨[true, true, false, true, true, false, false, true, false, false], rfl⟩
  · exact ⟨[true, true, false, true, true, false, false, true, false, true], rfl⟩
  · omega
theorem g_by19 : ∀ j, j < wLen 19 → inGv (Cond.eq (.elem (tV 19) (.int (Int32.ofNat j))) (.int (wC 19 j))) := by
  intro j hj
  have hl : wLen 19 = 2 := rfl
  rcases j with _ | _ | j
  · exact ⟨[true, true, true, false, false, false, false, false, true, true, false], rfl⟩
  · exact ⟨[true, true, true, false, false, false, false, false, true, true, true], rfl⟩
  · omega
theorem g_by20 : ∀ j, j < wLen 20 → inGv (Cond.eq (.elem (tV 20) (.int (Int32.ofNat j))) (.int (wC 20 j))) := by
  intro j hj
  have hl : wLen 20 = 3 := rfl
  rcases j with _ | _ | _ | j
  · exact ⟨[true, true, false, true, true, true, true, true, false, true, false], rfl⟩
  · exact ⟨[true, true, false, true, true, true, true, true, false, true, true], rfl⟩
  · exact ⟨[true, true, false, true, true, true, true, true, true, false], rfl⟩
  · omega
theorem g_by21 : ∀ j, j < wLen 21 → inGv (Cond.eq (.elem (tV 21) (.int (Int32.ofNat j))) (.int (wC 21 j))) := by
  intro j hj
  have hl : wLen 21 = 3 := rfl
  rcases j with _ | _ | _ | j
  · exact ⟨[true, true, false, true, true, false, true, false, true, false], rfl⟩
  · exact ⟨[true, true, false, true, true, false, true, false, true, true, false], rfl⟩
  · exact ⟨[true, true, false, true, true, false, true, false, true, true, true], rfl⟩
  · omega
theorem g_by22 : ∀ j, j < wLen 22 → inGv (Cond.eq (.elem (tV 22) (.int (Int32.ofNat j))) (.int (wC 22 j))) := by
  intro j hj
  have hl : wLen 22 = 5 := rfl
  rcases j with _ | _ | _ | _ | _ | j
  · exact ⟨[true, true, false, true, true, false, true, true, true, true, true], rfl⟩
  · exact ⟨[true, true, false, true, true, true, false, false, false, false], rfl⟩
  · exact ⟨[true, true, false, true, true, true, false, false, false, true], rfl⟩
  · exact ⟨[true, true, false, true, true, true, false, false, true, false], rfl⟩
  · exact ⟨[true, true, false, true, true, true, false, false, true, true, false], rfl⟩
  · omega
theorem g_by23 : ∀ j, j < wLen 23 → inGv (Cond.eq (.elem (tV 23) (.int (Int32.ofNat j))) (.int (wC 23 j))) := by
  intro j hj
  have hl : wLen 23 = 3 := rfl
  rcases j with _ | _ | _ | j
  · exact ⟨[true, true, false, true, true, true, false, true, true, true, false], rfl⟩
  · exact ⟨[true, true, false, true, true, true, false, true, true, true, true], rfl⟩
  · exact ⟨[true, true, false, true, true, true, true, false, false, false], rfl⟩
  · omega
theorem g_by24 : ∀ j, j < wLen 24 → inGv (Cond.eq (.elem (tV 24) (.int (Int32.ofNat j))) (.int (wC 24 j))) := by
  intro j hj
  have hl : wLen 24 = 4 := rfl
  rcases j with _ | _ | _ | _ | j
  · exact ⟨[true, true, true, true, true, false, true, true, true, true, false], rfl⟩
  · exact ⟨[true, true, true, true, true, false, true, true, true, true, true], rfl⟩
  · exact ⟨[true, true, true, true, true, true, false, false, false, false], rfl⟩
  · exact ⟨[true, true, true, true, true, true, false, false, false, true], rfl⟩
  · omega
theorem g_by25 : ∀ j, j < wLen 25 → inGv (Cond.eq (.elem (tV 25) (.int (Int32.ofNat j))) (.int (wC 25 j))) := by
  intro j hj
  have hl : wLen 25 = 5 := rfl
  rcases j with _ | _ | _ | _ | _ | j
  · exact ⟨[true, true, true, true, true, true, false, true, false, true, true], rfl⟩
  · exact ⟨[true, true, true, true, true, true, false, true, true, false], rfl⟩
  · exact ⟨[true, true, true, true, true, true, false, true, true, true, false], rfl⟩
  · exact ⟨[true, true, true, true, true, true, false, true, true, true, true], rfl⟩
  · exact ⟨[true, true, true, true, true, true, true, false, false, false], rfl⟩
  · omega
theorem g_by26 : ∀ j, j < wLen 26 → inGv (Cond.eq (.elem (tV 26) (.int (Int32.ofNat j))) (.int (wC 26 j))) := by
  intro j hj
  have hl : wLen 26 = 4 := rfl
  rcases j with _ | _ | _ | _ | j
  · exact ⟨[true, true, true, true, true, true, true, true, false, true, false], rfl⟩
  · exact ⟨[true, true, true, true, true, true, true, true, false, true, true], rfl⟩
  · exact ⟨[true, true, true, true, true, true, true, true, true, false], rfl⟩
  · exact ⟨[true, true, true, true, true, true, true, true, true, true, false], rfl⟩
  · omega
theorem g_by : ∀ i, i < 27 → ∀ j, j < wLen i → inGv (Cond.eq (.elem (tV i) (.int (Int32.ofNat j))) (.int (wC i j))) := by
  intro i hi
  rcases i with _ | _ | _ | _ | _ | _ | _ | _ | _ | _ | _ | _ | _ | _ | _ | _ | _ | _ | _ | _ | _ | _ | _ | _ | _ | _ | _ | i
  · exact g_by0
  · exact g_by1
  · exact g_by2
  · exact g_by3
  · exact g_by4
  · exact g_by5
  · exact g_by6
  · exact g_by7
  · exact g_by8
  · exact g_by9
  · exact g_by10
  · exact g_by11
  · exact g_by12
  · exact g_by13
  · exact g_by14
  · exact g_by15
  · exact g_by16
  · exact g_by17
  · exact g_by18
  · exact g_by19
  · exact g_by20
  · exact g_by21
  · exact g_by22
  · exact g_by23
  · exact g_by24
  · exact g_by25
  · exact g_by26
  · omega
theorem g_rest : inGv (Cond.arrayOf tR (.object RX10)) ∧ inGv (Cond.eq (.length tR) (.int 27)) ∧ inGv (Cond.eq (.static RJ0 "COMPACT_STRINGS" "Z") (.int 1)) ∧ inGv (Cond.isRef (.static RJ3 "SIOOBE_FORMATTER" "Ljava/util/function/BiFunction;")) :=
  ⟨⟨[true, false, false, false, false, false, false, false, true, true, true], rfl⟩, ⟨[true, false, false, false, false, false, false, true, false, false], rfl⟩, ⟨[true, false, false, false, false, true, true, false, true, true, false], rfl⟩, ⟨[true, false, false, false, false, true, true, false, true, true, true], rfl⟩⟩
theorem tx_inj : ∀ i, i < 27 → ∀ j, j < 27 → wLen i = wLen j → (∀ k, k < wLen i → wC i k = wC j k) → i = j := by decide +kernel
theorem t_ly : ∀ i, i < 27 → Cond.laysStatic RX10 (wNm i) dWd ∈ lw_tbl := by
  intro i hi
  rcases i with _ | _ | _ | _ | _ | _ | _ | _ | _ | _ | _ | _ | _ | _ | _ | _ | _ | _ | _ | _ | _ | _ | _ | _ | _ | _ | _ | i
  · exact (inD4 (i := 167) rfl)
  · exact (inD4 (i := 174) rfl)
  · exact (inD4 (i := 182) rfl)
  · exact (inD4 (i := 188) rfl)
  · exact (inD4 (i := 194) rfl)
  · exact (inD4 (i := 196) rfl)
  · exact (inD4 (i := 198) rfl)
  · exact (inD4 (i := 200) rfl)
  · exact (inD4 (i := 202) rfl)
  · exact (inD4 (i := 208) rfl)
  · exact (inD4 (i := 220) rfl)
  · exact (inD4 (i := 222) rfl)
  · exact (inD4 (i := 224) rfl)
  · exact (inD4 (i := 226) rfl)
  · exact (inD4 (i := 228) rfl)
  · exact (inD4 (i := 78) rfl)
  · exact (inD4 (i := 84) rfl)
  · exact (inD4 (i := 86) rfl)
  · exact (inD4 (i := 96) rfl)
  · exact (inD4 (i := 158) rfl)
  · exact (inD4 (i := 156) rfl)
  · exact (inD4 (i := 106) rfl)
  · exact (inD4 (i := 122) rfl)
  · exact (inD4 (i := 128) rfl)
  · exact (inD10 (i := 54) rfl)
  · exact (inD10 (i := 55) rfl)
  · exact (inD10 (i := 56) rfl)
  · omega
theorem t_sr : ∀ i, i < 27 → Cond.stringRef RX12 (wMi i) (wTx i) ∈ lw_tbl := by
  intro i hi
  rcases i with _ | _ | _ | _ | _ | _ | _ | _ | _ | _ | _ | _ | _ | _ | _ | _ | _ | _ | _ | _ | _ | _ | _ | _ | _ | _ | _ | i
  · exact (inD7 (i := 153) rfl)
  · exact (inD7 (i := 168) rfl)
  · exact (inD7 (i := 177) rfl)
  · exact (inD7 (i := 181) rfl)
  · exact (inD7 (i := 190) rfl)
  · exact (inD7 (i := 191) rfl)
  · exact (inD7 (i := 192) rfl)
  · exact (inD7 (i := 197) rfl)
  · exact (inD7 (i := 198) rfl)
  · exact (inD7 (i := 202) rfl)
  · exact (inD7 (i := 215) rfl)
  · exact (inD7 (i := 220) rfl)
  · exact (inD7 (i := 221) rfl)
  · exact (inD7 (i := 222) rfl)
  · exact (inD7 (i := 223) rfl)
  · exact (inD7 (i := 228) rfl)
  · exact (inD7 (i := 229) rfl)
  · exact (inD7 (i := 230) rfl)
  · exact (inD7 (i := 231) rfl)
  · exact (inD8 (i := 35) rfl)
  · exact (inD8 (i := 34) rfl)
  · exact (inD8 (i := 8) rfl)
  · exact (inD8 (i := 17) rfl)
  · exact (inD8 (i := 18) rfl)
  · exact (inD8 (i := 31) rfl)
  · exact (inD8 (i := 32) rfl)
  · exact (inD8 (i := 33) rfl)
  · omega
theorem t_rest : Cond.laysStatic RX9 "WORDS" "[LPutOffParade$Word;" ∈ lw_tbl ∧ Cond.laysStatic RJ0 "COMPACT_STRINGS" "Z" ∈ lw_tbl ∧ Cond.laysStatic RJ3 "SIOOBE_FORMATTER" "Ljava/util/function/BiFunction;" ∈ lw_tbl ∧ Cond.initialized RX10 ∈ lw_tbl ∧ Cond.initialized RX9 ∈ lw_tbl ∧ Cond.initialized RJ0 ∈ lw_tbl ∧ Cond.initialized RJ3 ∈ lw_tbl :=
  ⟨(inD4 (i := 1) rfl), (inD4 (i := 15) rfl), (inD4 (i := 31) rfl), (inD1 (i := 19) rfl), (inD1 (i := 5) rfl), (inD1 (i := 14) rfl), (inD1 (i := 16) rfl)⟩
theorem adc {G : aG} {p : Nat} (h : p < 200) : ad G p = G.2.2.2 p := by
  unfold ad
  rw [ble_f h]
/-- addresses of the constants -/
def adF (b aR aF : Nat) (aW : Nat → Nat) (aS : Nat → Nat × Nat) (p : Nat) : Nat := if p = 199 then b else if p = 190 then aR else if p = 191 then aF else if p < 130 then aW (p - 100) else if p < 160 then (aS (p - 130)).1 else (aS (p - 160)).2
theorem adF_w {b aR aF : Nat} {aW : Nat → Nat} {aS : Nat → Nat × Nat} {i : Nat} (h : i < 27) : adF b aR aF aW aS (100 + i) = aW i := by
  unfold adF
  rw [if_neg (by omega), if_neg (by omega), if_neg (by omega), if_pos (by omega), Nat.add_sub_cancel_left]
theorem adF_s {b aR aF : Nat} {aW : Nat → Nat} {aS : Nat → Nat × Nat} {i : Nat} (h : i < 27) : adF b aR aF aW aS (130 + i) = (aS i).1 := by
  unfold adF
  rw [if_neg (by omega), if_neg (by omega), if_neg (by omega), if_neg (by omega), if_pos (by omega), Nat.add_sub_cancel_left]
theorem adF_v {b aR aF : Nat} {aW : Nat → Nat} {aS : Nat → Nat × Nat} {i : Nat} (h : i < 27) : adF b aR aF aW aS (160 + i) = (aS i).2 := by
  unfold adF
  rw [if_neg (by omega), if_neg (by omega), if_neg (by omega), if_neg (by omega), if_neg (by omega), Nat.add_sub_cancel_left]
theorem ref_of {args : Array Value} {s : State} {t : Term} (h : (Cond.isRef t).before args s = true) : ∃ (fv : Value) (aF : Nat), (fv = Value.null ∨ fv = Value.ref 191) ∧ ∀ G : aG, G.2.2.2 191 = aF → t.eval args s none [] s = some (mv G fv) := by
  simp only [Cond.before, Cond.holds, Cond.value] at h
  cases hv : t.eval args s none [] s with
  | none => simp [hv] at h
  | some v =>
    cases v with
    | null => exact ⟨.null, 0, Or.inl rfl, fun G _ => rfl⟩
    | ref a => exact ⟨.ref 191, a, Or.inr rfl, fun G hG => by
        show _ = some (Value.ref (ad G 191))
        rw [adc (by decide), hG]⟩
    | _ => simp [hv] at h
section Q90
variable {s : State} {Ar : Array Value} {A : Nat → Prop}
/-- where the words and texts lie -/
theorem words_of (hs : ∀ c, inGv c → c.before Ar s = true) (hA : ∀ a : Nat, a < s.heap.size → ¬ A a) : ∃ (aW : Nat → Nat) (aS : Nat → Nat × Nat), (∀ i, i < 27 → (tW i).eval Ar s none [] s = some (.ref (aW i))) ∧ (∀ i, i < 27 → (tS i).eval Ar s none [] s = some (.ref (aS i).1) ∧ va_O RJ0 (aS i).1 A s s.heap ∧ va_OF RJ0 "coder" "B" (.int 0) (aS i).1 A s s.heap ∧ va_OF RJ0 "value" "[B" (.ref (aS i).2) (aS i).1 A s s.heap ∧ (tV i).eval Ar s none [] s = some (.ref (aS i).2) ∧ va_T .byte (aS i).2 (wLen i) (fun j => .int (wC i j)) A s s.heap) := by
  have w0 : ∀ i : Nat, ∃ a : Nat, i < 27 → (tW i).eval Ar s none [] s = some (.ref a) := by
    intro i
    by_cases hi : i < 27
    · obtain ⟨a, c, cA, kA, q1, -⟩ := Cond.exactly_spec (args := Ar) (first := s) (o := none) (s := s) (idx := []) (t := tW i) (cls := RX10) (hs _ (g_ex i hi))
      exact ⟨a, fun _ => q1⟩
    · exact ⟨0, fun h => absurd h hi⟩
  have s0 : ∀ i : Nat, ∃ q : Nat × Nat, i < 27 → (tS i).eval Ar s none [] s = some (.ref q.1) ∧ va_O RJ0 q.1 A s s.heap ∧ va_OF RJ0 "coder" "B" (.int 0) q.1 A s s.heap ∧ va_OF RJ0 "value" "[B" (.ref q.2) q.1 A s s.heap ∧ (tV i).eval Ar s none [] s = some (.ref q.2) ∧ va_T .byte q.2 (wLen i) (fun j => .int (wC i j)) A s s.heap := by
    intro i
    by_cases hi : i < 27
    · obtain ⟨a, c, cA, kA, q1, -⟩ := Cond.exactly_spec (args := Ar) (first := s) (o := none) (s := s) (idx := []) (t := tS i) (cls := RJ0) (hs _ (g_se i hi))
      obtain ⟨t, ht, hT⟩ := va_Tof (N := wLen i) (f := fun j => .int (wC i j)) (A := A) (wLen_lt i hi) (hs _ (g_ar i hi)) (va_eqt (hs _ (g_le i hi))) (fun j hj => va_eqt (hs _ (g_by i hi j hj))) hA
      exact ⟨(a, t), fun _ => ⟨q1, va_Oof (hs _ (g_se i hi)) q1 hA, vk_OFof q1 (va_eqt (hs _ (g_co i hi))) hA, vk_OFof q1 ht hA, ht, hT⟩⟩
    · exact ⟨(0, 0), fun h => absurd h hi⟩
  obtain ⟨aW, haW⟩ := Classical.axiomOfChoice w0
  obtain ⟨aS, haS⟩ := Classical.axiomOfChoice s0
  exact ⟨aW, aS, haW, haS⟩
theorem inj_ww (hs : ∀ c, inGv c → c.before Ar s = true) {i j a : Nat} (hi : i < 27) (hj : j < 27) (h1 : (tW i).eval Ar s none [] s = some (.ref a)) (h2 : (tW j).eval Ar s none [] s = some (.ref a)) : i = j := by
  have o1 := va_eqt (hs _ (g_or i hi))
  have o2 := va_eqt (hs _ (g_or j hj))
  rw [va_fe h1] at o1
  rw [va_fe h2, o1] at o2
  have e := Option.some.inj o2
  exact nI_inj (by omega) (by omega) (Value.int.inj e)
theorem inj_ss {i j a v v' : Nat} (hi : i < 27) (hj : j < 27) (h1 : (tS i).eval Ar s none [] s = some (.ref a)) (h2 : (tS j).eval Ar s none [] s = some (.ref a)) (v1 : (tV i).eval Ar s none [] s = some (.ref v)) (v2 : (tV j).eval Ar s none [] s = some (.ref v')) (t1 : va_T .byte v (wLen i) (fun j => .int (wC i j)) A s s.heap) (t2 : va_T .byte v' (wLen j) (fun k => .int (wC j k)) A s s.heap) : i = j := by
  unfold tV at v1 v2
  rw [va_fe h1] at v1
  rw [va_fe h2, v1] at v2
  have e : v = v' := Value.ref.inj (Option.some.inj v2)
  subst e
  obtain ⟨c1, p1, -, -, -, p5, p6, -⟩ := t1
  obtain ⟨c2, q1, -, -, -, q5, q6, -⟩ := t2
  cases p1.symm.trans q1
  have hl : wLen i = wLen j := nI_inj (wLen_lt i hi) (wLen_lt j hj) (p5.symm.trans q5)
  refine tx_inj i hi j hj hl (fun k hk => ?_)
  have := (p6 k hk).symm.trans (q6 k (by omega))
  exact Value.int.inj (Option.some.inj this)
theorem inj_ws {a : Nat} (h1 : va_O RX10 a A s s.heap) (h2 : va_O RJ0 a A s s.heap) : False := by
  obtain ⟨c1, p1, -, p3, -⟩ := h1
  obtain ⟨c2, q1, -, q3, -⟩ := h2
  cases p1.symm.trans q1
  obtain ⟨k1, e1, e2⟩ := Vm.findClass_spec p3
  obtain ⟨k2, e3, e4⟩ := Vm.findClass_spec q3
  cases e1.symm.trans e3
  exact absurd (e2.symm.trans e4) (by decide)
end Q90
