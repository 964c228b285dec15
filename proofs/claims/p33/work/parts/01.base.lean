section
-- ===== PART A: goes FIRST, ahead of the names: the tables' words, and 'selects' of the private methods out of them =====
/-- a private method of a class that the tables say can be made, by its rows of tables_1 -/
def lw_okq (q : MethodName × Nat) : Prop := (q.1.cls ≠ "java/lang/invoke/MethodHandle" ∧ q.1.cls ≠ "java/lang/invoke/VarHandle") ∧ Cond.instantiable q.1.cls q.2 ∈ tables_1 ∧ Cond.privateMethod q.1 ∈ tables_1 ∧ Cond.instanceMethod q.1 ∈ tables_1
theorem tq1 {w : Cond} {i : Nat} (h : tables_1_1[i]? = some w) : w ∈ tables_1 := List.mem_append_left _ (List.mem_of_getElem? h)
theorem tq2 {w : Cond} {i : Nat} (h : tables_1_2[i]? = some w) : w ∈ tables_1 := List.mem_append_right _ (List.mem_append_left _ (List.mem_of_getElem? h))
theorem tq3 {w : Cond} {i : Nat} (h : tables_1_3[i]? = some w) : w ∈ tables_1 := List.mem_append_right _ (List.mem_append_right _ (List.mem_append_left _ (List.mem_of_getElem? h)))
theorem tq4 {w : Cond} {i : Nat} (h : tables_1_4[i]? = some w) : w ∈ tables_1 := List.mem_append_right _ (List.mem_append_right _ (List.mem_append_right _ (List.mem_append_left _ (List.mem_of_getElem? h))))
theorem tq5 {w : Cond} {i : Nat} (h : tables_1_5[i]? = some w) : w ∈ tables_1 := List.mem_append_right _ (List.mem_append_right _ (List.mem_append_right _ (List.mem_append_right _ (List.mem_append_left _ (List.mem_of_getElem? h)))))
theorem tq6 {w : Cond} {i : Nat} (h : tables_1_6[i]? = some w) : w ∈ tables_1 := List.mem_append_right _ (List.mem_append_right _ (List.mem_append_right _ (List.mem_append_right _ (List.mem_append_right _ (List.mem_append_left _ (List.mem_of_getElem? h))))))
theorem tq7 {w : Cond} {i : Nat} (h : tables_1_7[i]? = some w) : w ∈ tables_1 := List.mem_append_right _ (List.mem_append_right _ (List.mem_append_right _ (List.mem_append_right _ (List.mem_append_right _ (List.mem_append_right _ (List.mem_append_left _ (List.mem_of_getElem? h)))))))
theorem tq8 {w : Cond} {i : Nat} (h : tables_1_8[i]? = some w) : w ∈ tables_1 := List.mem_append_right _ (List.mem_append_right _ (List.mem_append_right _ (List.mem_append_right _ (List.mem_append_right _ (List.mem_append_right _ (List.mem_append_right _ (List.mem_append_left _ (List.mem_of_getElem? h))))))))
theorem tq9 {w : Cond} {i : Nat} (h : tables_1_9[i]? = some w) : w ∈ tables_1 := List.mem_append_right _ (List.mem_append_right _ (List.mem_append_right _ (List.mem_append_right _ (List.mem_append_right _ (List.mem_append_right _ (List.mem_append_right _ (List.mem_append_right _ (List.mem_append_left _ (List.mem_of_getElem? h)))))))))
theorem tq10 {w : Cond} {i : Nat} (h : tables_1_10[i]? = some w) : w ∈ tables_1 := List.mem_append_right _ (List.mem_append_right _ (List.mem_append_right _ (List.mem_append_right _ (List.mem_append_right _ (List.mem_append_right _ (List.mem_append_right _ (List.mem_append_right _ (List.mem_append_right _ (List.mem_of_getElem? h)))))))))
theorem nq_0 : ("PutOffParade" ≠ "java/lang/invoke/MethodHandle" ∧ "PutOffParade" ≠ "java/lang/invoke/VarHandle") ∧ Cond.instantiable "PutOffParade" 14 ∈ tables_1 := ⟨⟨by decide +kernel, by decide +kernel⟩, tq1 (i := 31) rfl⟩
theorem nq_1 : ("PutOffParade$Law" ≠ "java/lang/invoke/MethodHandle" ∧ "PutOffParade$Law" ≠ "java/lang/invoke/VarHandle") ∧ Cond.instantiable "PutOffParade$Law" 9 ∈ tables_1 := ⟨⟨by decide +kernel, by decide +kernel⟩, tq2 (i := 9) rfl⟩
theorem nq_2 : ("PutOffParade$Choosing" ≠ "java/lang/invoke/MethodHandle" ∧ "PutOffParade$Choosing" ≠ "java/lang/invoke/VarHandle") ∧ Cond.instantiable "PutOffParade$Choosing" 2 ∈ tables_1 := ⟨⟨by decide +kernel, by decide +kernel⟩, tq2 (i := 64) rfl⟩
theorem nq_3 : ("PutOffParade$Street" ≠ "java/lang/invoke/MethodHandle" ∧ "PutOffParade$Street" ≠ "java/lang/invoke/VarHandle") ∧ Cond.instantiable "PutOffParade$Street" 18 ∈ tables_1 := ⟨⟨by decide +kernel, by decide +kernel⟩, tq1 (i := 109) rfl⟩
theorem nq_4 : ("PutOffParade$Tokens" ≠ "java/lang/invoke/MethodHandle" ∧ "PutOffParade$Tokens" ≠ "java/lang/invoke/VarHandle") ∧ Cond.instantiable "PutOffParade$Tokens" 10 ∈ tables_1 := ⟨⟨by decide +kernel, by decide +kernel⟩, tq1 (i := 64) rfl⟩
theorem nq_5 : ("PutOffParade$LawReader" ≠ "java/lang/invoke/MethodHandle" ∧ "PutOffParade$LawReader" ≠ "java/lang/invoke/VarHandle") ∧ Cond.instantiable "PutOffParade$LawReader" 6 ∈ tables_1 := ⟨⟨by decide +kernel, by decide +kernel⟩, tq2 (i := 3) rfl⟩
theorem nq_6 : ("PutOffParade$StreetReader" ≠ "java/lang/invoke/MethodHandle" ∧ "PutOffParade$StreetReader" ≠ "java/lang/invoke/VarHandle") ∧ Cond.instantiable "PutOffParade$StreetReader" 3 ∈ tables_1 := ⟨⟨by decide +kernel, by decide +kernel⟩, tq1 (i := 55) rfl⟩
theorem nq_7 : ("java/lang/Throwable" ≠ "java/lang/invoke/MethodHandle" ∧ "java/lang/Throwable" ≠ "java/lang/invoke/VarHandle") ∧ Cond.instantiable "java/lang/Throwable" 6 ∈ tables_1 := ⟨⟨by decide +kernel, by decide +kernel⟩, tq5 (i := 31) rfl⟩
theorem nq_8 : ("PutOffParadeModel" ≠ "java/lang/invoke/MethodHandle" ∧ "PutOffParadeModel" ≠ "java/lang/invoke/VarHandle") ∧ Cond.instantiable "PutOffParadeModel" 20 ∈ tables_1 := ⟨⟨by decide +kernel, by decide +kernel⟩, tq7 (i := 30) rfl⟩
theorem lw_p0 : lw_okq (⟨"PutOffParade", "shameOfWaiting", "(LPutOffParade$Street;)I"⟩, 14) := ⟨nq_0.1, nq_0.2, (tq2 (i := 167) rfl), (tq2 (i := 168) rfl)⟩
theorem lw_p1 : lw_okq (⟨"PutOffParade$Law", "takeParts", "(LPutOffParade$Street;I)V"⟩, 9) := ⟨nq_1.1, nq_1.2, (tq2 (i := 183) rfl), (tq2 (i := 184) rfl)⟩
theorem lw_p2 : lw_okq (⟨"PutOffParade$Law", "setPart", "(II)V"⟩, 9) := ⟨nq_1.1, nq_1.2, (tq2 (i := 188) rfl), (tq2 (i := 189) rfl)⟩
theorem lw_p3 : lw_okq (⟨"PutOffParade$Law", "sumOfLines", "(I)I"⟩, 9) := ⟨nq_1.1, nq_1.2, (tq2 (i := 196) rfl), (tq2 (i := 197) rfl)⟩
theorem lw_p4 : lw_okq (⟨"PutOffParade$Law", "holds", "(I)Z"⟩, 9) := ⟨nq_1.1, nq_1.2, (tq2 (i := 200) rfl), (tq2 (i := 201) rfl)⟩
theorem lw_p5 : lw_okq (⟨"PutOffParade$Choosing", "canBeCalledTogether", "(LPutOffParade$Street;I)Z"⟩, 2) := ⟨nq_2.1, nq_2.2, (tq3 (i := 17) rfl), (tq3 (i := 18) rfl)⟩
theorem lw_p6 : lw_okq (⟨"PutOffParade", "isGap", "(I)Z"⟩, 14) := ⟨nq_0.1, nq_0.2, (tq3 (i := 58) rfl), (tq3 (i := 59) rfl)⟩
theorem lw_p7 : lw_okq (⟨"PutOffParade$Street", "draw", "()I"⟩, 18) := ⟨nq_3.1, nq_3.2, (tq3 (i := 128) rfl), (tq3 (i := 129) rfl)⟩
theorem lw_p8 : lw_okq (⟨"PutOffParade$Street", "work", "(II)I"⟩, 18) := ⟨nq_3.1, nq_3.2, (tq3 (i := 133) rfl), (tq3 (i := 134) rfl)⟩
theorem lw_p9 : lw_okq (⟨"PutOffParade$Street", "passMonth", "(LPutOffParade$Law;)V"⟩, 18) := ⟨nq_3.1, nq_3.2, (tq3 (i := 144) rfl), (tq3 (i := 145) rfl)⟩
theorem lw_p10 : lw_okq (⟨"PutOffParade", "pastAt", "(I)LPutOffParade$Street;"⟩, 14) := ⟨nq_0.1, nq_0.2, (tq3 (i := 174) rfl), (tq3 (i := 175) rfl)⟩
theorem lw_p11 : lw_okq (⟨"PutOffParade$Tokens", "open", "(II)V"⟩, 10) := ⟨nq_4.1, nq_4.2, (tq3 (i := 227) rfl), (tq3 (i := 228) rfl)⟩
theorem lw_p12 : lw_okq (⟨"PutOffParade$Tokens", "valueOf", "(LPutOffParade$Tape;I)I"⟩, 10) := ⟨nq_4.1, nq_4.2, (tq3 (i := 232) rfl), (tq3 (i := 233) rfl)⟩
theorem lw_p13 : lw_okq (⟨"PutOffParade$Tokens", "wordOf", "(LPutOffParade$Tape;I)I"⟩, 10) := ⟨nq_4.1, nq_4.2, (tq3 (i := 237) rfl), (tq3 (i := 238) rfl)⟩
theorem lw_p14 : lw_okq (⟨"PutOffParade$Tokens", "isText", "(LPutOffParade$Tape;ILjava/lang/String;)Z"⟩, 10) := ⟨nq_4.1, nq_4.2, (tq4 (i := 3) rfl), (tq4 (i := 4) rfl)⟩
theorem lw_p15 : lw_okq (⟨"PutOffParade$Tokens", "numberOf", "(LPutOffParade$Tape;I)I"⟩, 10) := ⟨nq_4.1, nq_4.2, (tq4 (i := 55) rfl), (tq4 (i := 56) rfl)⟩
def lw_privs_1 : List (MethodName × Nat) := [(⟨"PutOffParade", "shameOfWaiting", "(LPutOffParade$Street;)I"⟩, 14), (⟨"PutOffParade$Law", "takeParts", "(LPutOffParade$Street;I)V"⟩, 9), (⟨"PutOffParade$Law", "setPart", "(II)V"⟩, 9), (⟨"PutOffParade$Law", "sumOfLines", "(I)I"⟩, 9), (⟨"PutOffParade$Law", "holds", "(I)Z"⟩, 9), (⟨"PutOffParade$Choosing", "canBeCalledTogether", "(LPutOffParade$Street;I)Z"⟩, 2), (⟨"PutOffParade", "isGap", "(I)Z"⟩, 14), (⟨"PutOffParade$Street", "draw", "()I"⟩, 18), (⟨"PutOffParade$Street", "work", "(II)I"⟩, 18), (⟨"PutOffParade$Street", "passMonth", "(LPutOffParade$Law;)V"⟩, 18), (⟨"PutOffParade", "pastAt", "(I)LPutOffParade$Street;"⟩, 14), (⟨"PutOffParade$Tokens", "open", "(II)V"⟩, 10), (⟨"PutOffParade$Tokens", "valueOf", "(LPutOffParade$Tape;I)I"⟩, 10), (⟨"PutOffParade$Tokens", "wordOf", "(LPutOffParade$Tape;I)I"⟩, 10), (⟨"PutOffParade$Tokens", "isText", "(LPutOffParade$Tape;ILjava/lang/String;)Z"⟩, 10), (⟨"PutOffParade$Tokens", "numberOf", "(LPutOffParade$Tape;I)I"⟩, 10)]
theorem lw_r1 : ∀ q ∈ lw_privs_1, lw_okq q := List.forall_mem_cons.mpr ⟨lw_p0, List.forall_mem_cons.mpr ⟨lw_p1, List.forall_mem_cons.mpr ⟨lw_p2, List.forall_mem_cons.mpr ⟨lw_p3, List.forall_mem_cons.mpr ⟨lw_p4, List.forall_mem_cons.mpr ⟨lw_p5, List.forall_mem_cons.mpr ⟨lw_p6, List.forall_mem_cons.mpr ⟨lw_p7, List.forall_mem_cons.mpr ⟨lw_p8, List.forall_mem_cons.mpr ⟨lw_p9, List.forall_mem_cons.mpr ⟨lw_p10, List.forall_mem_cons.mpr ⟨lw_p11, List.forall_mem_cons.mpr ⟨lw_p12, List.forall_mem_cons.mpr ⟨lw_p13, List.forall_mem_cons.mpr ⟨lw_p14, List.forall_mem_cons.mpr ⟨lw_p15, fun _ h => absurd h List.not_mem_nil⟩⟩⟩⟩⟩⟩⟩⟩⟩⟩⟩⟩⟩⟩⟩⟩
theorem lw_p16 : lw_okq (⟨"PutOffParade$LawReader", "takeKind", "()I"⟩, 6) := ⟨nq_5.1, nq_5.2, (tq4 (i := 74) rfl), (tq4 (i := 75) rfl)⟩
theorem lw_p17 : lw_okq (⟨"PutOffParade$LawReader", "readCondition", "()Z"⟩, 6) := ⟨nq_5.1, nq_5.2, (tq4 (i := 98) rfl), (tq4 (i := 99) rfl)⟩
theorem lw_p18 : lw_okq (⟨"PutOffParade$LawReader", "openDeeper", "()Z"⟩, 6) := ⟨nq_5.1, nq_5.2, (tq4 (i := 102) rfl), (tq4 (i := 103) rfl)⟩
theorem lw_p19 : lw_okq (⟨"PutOffParade$LawReader", "hold", "(I)V"⟩, 6) := ⟨nq_5.1, nq_5.2, (tq4 (i := 112) rfl), (tq4 (i := 113) rfl)⟩
theorem lw_p20 : lw_okq (⟨"PutOffParade$LawReader", "readAtom", "()Z"⟩, 6) := ⟨nq_5.1, nq_5.2, (tq4 (i := 118) rfl), (tq4 (i := 119) rfl)⟩
theorem lw_p21 : lw_okq (⟨"PutOffParade$LawReader", "readSum", "()Z"⟩, 6) := ⟨nq_5.1, nq_5.2, (tq4 (i := 130) rfl), (tq4 (i := 131) rfl)⟩
theorem lw_p22 : lw_okq (⟨"PutOffParade$LawReader", "partAtHand", "()I"⟩, 6) := ⟨nq_5.1, nq_5.2, (tq4 (i := 134) rfl), (tq4 (i := 135) rfl)⟩
theorem lw_p23 : lw_okq (⟨"PutOffParade$LawReader", "closeDeeper", "()V"⟩, 6) := ⟨nq_5.1, nq_5.2, (tq4 (i := 143) rfl), (tq4 (i := 144) rfl)⟩
theorem lw_p24 : lw_okq (⟨"PutOffParade$LawReader", "emitHeld", "(I)V"⟩, 6) := ⟨nq_5.1, nq_5.2, (tq4 (i := 147) rfl), (tq4 (i := 148) rfl)⟩
theorem lw_p25 : lw_okq (⟨"PutOffParade$LawReader", "joinAtHand", "()I"⟩, 6) := ⟨nq_5.1, nq_5.2, (tq4 (i := 152) rfl), (tq4 (i := 153) rfl)⟩
theorem lw_p26 : lw_okq (⟨"PutOffParade$StreetReader", "readPerson", "()Z"⟩, 3) := ⟨nq_6.1, nq_6.2, (tq4 (i := 169) rfl), (tq4 (i := 170) rfl)⟩
theorem lw_p27 : lw_okq (⟨"PutOffParade$StreetReader", "readNumberOf", "(LPutOffParade$Word;II)I"⟩, 3) := ⟨nq_6.1, nq_6.2, (tq4 (i := 176) rfl), (tq4 (i := 177) rfl)⟩
theorem lw_p28 : lw_okq (⟨"PutOffParade$StreetReader", "readDuty", "()Z"⟩, 3) := ⟨nq_6.1, nq_6.2, (tq4 (i := 190) rfl), (tq4 (i := 191) rfl)⟩
theorem lw_p29 : lw_okq (⟨"PutOffParade$StreetReader", "readForgotten", "()Z"⟩, 3) := ⟨nq_6.1, nq_6.2, (tq4 (i := 210) rfl), (tq4 (i := 211) rfl)⟩
theorem lw_p30 : lw_okq (⟨"PutOffParade$StreetReader", "readSetting", "()Z"⟩, 3) := ⟨nq_6.1, nq_6.2, (tq4 (i := 216) rfl), (tq4 (i := 217) rfl)⟩
theorem lw_p31 : lw_okq (⟨"java/lang/Throwable", "fillInStackTrace", "(I)Ljava/lang/Throwable;"⟩, 6) := ⟨nq_7.1, nq_7.2, (tq5 (i := 29) rfl), (tq5 (i := 30) rfl)⟩
def lw_privs_2 : List (MethodName × Nat) := [(⟨"PutOffParade$LawReader", "takeKind", "()I"⟩, 6), (⟨"PutOffParade$LawReader", "readCondition", "()Z"⟩, 6), (⟨"PutOffParade$LawReader", "openDeeper", "()Z"⟩, 6), (⟨"PutOffParade$LawReader", "hold", "(I)V"⟩, 6), (⟨"PutOffParade$LawReader", "readAtom", "()Z"⟩, 6), (⟨"PutOffParade$LawReader", "readSum", "()Z"⟩, 6), (⟨"PutOffParade$LawReader", "partAtHand", "()I"⟩, 6), (⟨"PutOffParade$LawReader", "closeDeeper", "()V"⟩, 6), (⟨"PutOffParade$LawReader", "emitHeld", "(I)V"⟩, 6), (⟨"PutOffParade$LawReader", "joinAtHand", "()I"⟩, 6), (⟨"PutOffParade$StreetReader", "readPerson", "()Z"⟩, 3), (⟨"PutOffParade$StreetReader", "readNumberOf", "(LPutOffParade$Word;II)I"⟩, 3), (⟨"PutOffParade$StreetReader", "readDuty", "()Z"⟩, 3), (⟨"PutOffParade$StreetReader", "readForgotten", "()Z"⟩, 3), (⟨"PutOffParade$StreetReader", "readSetting", "()Z"⟩, 3), (⟨"java/lang/Throwable", "fillInStackTrace", "(I)Ljava/lang/Throwable;"⟩, 6)]
theorem lw_r2 : ∀ q ∈ lw_privs_2, lw_okq q := List.forall_mem_cons.mpr ⟨lw_p16, List.forall_mem_cons.mpr ⟨lw_p17, List.forall_mem_cons.mpr ⟨lw_p18, List.forall_mem_cons.mpr ⟨lw_p19, List.forall_mem_cons.mpr ⟨lw_p20, List.forall_mem_cons.mpr ⟨lw_p21, List.forall_mem_cons.mpr ⟨lw_p22, List.forall_mem_cons.mpr ⟨lw_p23, List.forall_mem_cons.mpr ⟨lw_p24, List.forall_mem_cons.mpr ⟨lw_p25, List.forall_mem_cons.mpr ⟨lw_p26, List.forall_mem_cons.mpr ⟨lw_p27, List.forall_mem_cons.mpr ⟨lw_p28, List.forall_mem_cons.mpr ⟨lw_p29, List.forall_mem_cons.mpr ⟨lw_p30, List.forall_mem_cons.mpr ⟨lw_p31, fun _ h => absurd h List.not_mem_nil⟩⟩⟩⟩⟩⟩⟩⟩⟩⟩⟩⟩⟩⟩⟩⟩
theorem lw_p32 : lw_okq (⟨"PutOffParade", "needPerson", "(I)V"⟩, 14) := ⟨nq_0.1, nq_0.2, (tq5 (i := 94) rfl), (tq5 (i := 95) rfl)⟩
theorem lw_p33 : lw_okq (⟨"PutOffParade", "shareOf", "(I)I"⟩, 14) := ⟨nq_0.1, nq_0.2, (tq5 (i := 117) rfl), (tq5 (i := 118) rfl)⟩
theorem lw_p34 : lw_okq (⟨"PutOffParade", "needDuty", "(I)V"⟩, 14) := ⟨nq_0.1, nq_0.2, (tq5 (i := 143) rfl), (tq5 (i := 144) rfl)⟩
theorem lw_p35 : lw_okq (⟨"PutOffParade", "rememberAct", "()V"⟩, 14) := ⟨nq_0.1, nq_0.2, (tq5 (i := 175) rfl), (tq5 (i := 176) rfl)⟩
theorem lw_p36 : lw_okq (⟨"PutOffParade", "needState", "(II)V"⟩, 14) := ⟨nq_0.1, nq_0.2, (tq5 (i := 186) rfl), (tq5 (i := 187) rfl)⟩
theorem lw_p37 : lw_okq (⟨"PutOffParade", "letParadeGoBy", "()V"⟩, 14) := ⟨nq_0.1, nq_0.2, (tq6 (i := 0) rfl), (tq6 (i := 1) rfl)⟩
theorem lw_p38 : lw_okq (⟨"PutOffParade", "takeWhoFits", "()I"⟩, 14) := ⟨nq_0.1, nq_0.2, (tq6 (i := 114) rfl), (tq6 (i := 115) rfl)⟩
theorem lw_p39 : lw_okq (⟨"PutOffParade", "whoFits", "()I"⟩, 14) := ⟨nq_0.1, nq_0.2, (tq6 (i := 118) rfl), (tq6 (i := 119) rfl)⟩
theorem lw_p40 : lw_okq (⟨"PutOffParade", "kerbToAskFor", "(I)I"⟩, 14) := ⟨nq_0.1, nq_0.2, (tq6 (i := 134) rfl), (tq6 (i := 135) rfl)⟩
theorem lw_p41 : lw_okq (⟨"PutOffParade", "shameTriedOut", "(II)I"⟩, 14) := ⟨nq_0.1, nq_0.2, (tq6 (i := 227) rfl), (tq6 (i := 228) rfl)⟩
theorem lw_p42 : lw_okq (⟨"PutOffParadeModel", "readAll", "(Z)I"⟩, 20) := ⟨nq_8.1, nq_8.2, (tq7 (i := 126) rfl), (tq7 (i := 127) rfl)⟩
theorem lw_p43 : lw_okq (⟨"PutOffParadeModel", "uses", "()V"⟩, 20) := ⟨nq_8.1, nq_8.2, (tq7 (i := 130) rfl), (tq7 (i := 131) rfl)⟩
theorem lw_p44 : lw_okq (⟨"PutOffParadeModel", "blanks", "()V"⟩, 20) := ⟨nq_8.1, nq_8.2, (tq7 (i := 134) rfl), (tq7 (i := 135) rfl)⟩
theorem lw_p45 : lw_okq (⟨"PutOffParadeModel", "isAt", "(II)Z"⟩, 20) := ⟨nq_8.1, nq_8.2, (tq7 (i := 138) rfl), (tq7 (i := 139) rfl)⟩
theorem lw_p46 : lw_okq (⟨"PutOffParadeModel", "readLine", "(ZI)Z"⟩, 20) := ⟨nq_8.1, nq_8.2, (tq7 (i := 142) rfl), (tq7 (i := 143) rfl)⟩
theorem lw_p47 : lw_okq (⟨"PutOffParadeModel", "letters", "()V"⟩, 20) := ⟨nq_8.1, nq_8.2, (tq7 (i := 146) rfl), (tq7 (i := 147) rfl)⟩
def lw_privs_3 : List (MethodName × Nat) := [(⟨"PutOffParade", "needPerson", "(I)V"⟩, 14), (⟨"PutOffParade", "shareOf", "(I)I"⟩, 14), (⟨"PutOffParade", "needDuty", "(I)V"⟩, 14), (⟨"PutOffParade", "rememberAct", "()V"⟩, 14), (⟨"PutOffParade", "needState", "(II)V"⟩, 14), (⟨"PutOffParade", "letParadeGoBy", "()V"⟩, 14), (⟨"PutOffParade", "takeWhoFits", "()I"⟩, 14), (⟨"PutOffParade", "whoFits", "()I"⟩, 14), (⟨"PutOffParade", "kerbToAskFor", "(I)I"⟩, 14), (⟨"PutOffParade", "shameTriedOut", "(II)I"⟩, 14), (⟨"PutOffParadeModel", "readAll", "(Z)I"⟩, 20), (⟨"PutOffParadeModel", "uses", "()V"⟩, 20), (⟨"PutOffParadeModel", "blanks", "()V"⟩, 20), (⟨"PutOffParadeModel", "isAt", "(II)Z"⟩, 20), (⟨"PutOffParadeModel", "readLine", "(ZI)Z"⟩, 20), (⟨"PutOffParadeModel", "letters", "()V"⟩, 20)]
theorem lw_r3 : ∀ q ∈ lw_privs_3, lw_okq q := List.forall_mem_cons.mpr ⟨lw_p32, List.forall_mem_cons.mpr ⟨lw_p33, List.forall_mem_cons.mpr ⟨lw_p34, List.forall_mem_cons.mpr ⟨lw_p35, List.forall_mem_cons.mpr ⟨lw_p36, List.forall_mem_cons.mpr ⟨lw_p37, List.forall_mem_cons.mpr ⟨lw_p38, List.forall_mem_cons.mpr ⟨lw_p39, List.forall_mem_cons.mpr ⟨lw_p40, List.forall_mem_cons.mpr ⟨lw_p41, List.forall_mem_cons.mpr ⟨lw_p42, List.forall_mem_cons.mpr ⟨lw_p43, List.forall_mem_cons.mpr ⟨lw_p44, List.forall_mem_cons.mpr ⟨lw_p45, List.forall_mem_cons.mpr ⟨lw_p46, List.forall_mem_cons.mpr ⟨lw_p47, fun _ h => absurd h List.not_mem_nil⟩⟩⟩⟩⟩⟩⟩⟩⟩⟩⟩⟩⟩⟩⟩⟩
theorem lw_p48 : lw_okq (⟨"PutOffParadeModel", "readStreetLine", "()Z"⟩, 20) := ⟨nq_8.1, nq_8.2, (tq7 (i := 150) rfl), (tq7 (i := 151) rfl)⟩
theorem lw_p49 : lw_okq (⟨"PutOffParadeModel", "isWord", "(Ljava/lang/String;)Z"⟩, 20) := ⟨nq_8.1, nq_8.2, (tq7 (i := 155) rfl), (tq7 (i := 156) rfl)⟩
theorem lw_p50 : lw_okq (⟨"PutOffParadeModel", "readPerson", "()Z"⟩, 20) := ⟨nq_8.1, nq_8.2, (tq7 (i := 161) rfl), (tq7 (i := 162) rfl)⟩
theorem lw_p51 : lw_okq (⟨"PutOffParadeModel", "people", "()I"⟩, 20) := ⟨nq_8.1, nq_8.2, (tq7 (i := 165) rfl), (tq7 (i := 166) rfl)⟩
theorem lw_p52 : lw_okq (⟨"PutOffParadeModel", "numberBehind", "(Ljava/lang/String;II)I"⟩, 20) := ⟨nq_8.1, nq_8.2, (tq7 (i := 170) rfl), (tq7 (i := 171) rfl)⟩
theorem lw_p53 : lw_okq (⟨"PutOffParadeModel", "number", "(II)I"⟩, 20) := ⟨nq_8.1, nq_8.2, (tq7 (i := 174) rfl), (tq7 (i := 175) rfl)⟩
theorem lw_p54 : lw_okq (⟨"PutOffParadeModel", "readDuty", "()Z"⟩, 20) := ⟨nq_8.1, nq_8.2, (tq7 (i := 183) rfl), (tq7 (i := 184) rfl)⟩
theorem lw_p55 : lw_okq (⟨"PutOffParadeModel", "duties", "()I"⟩, 20) := ⟨nq_8.1, nq_8.2, (tq7 (i := 187) rfl), (tq7 (i := 188) rfl)⟩
theorem lw_p56 : lw_okq (⟨"PutOffParadeModel", "passes", "(Ljava/lang/String;)Z"⟩, 20) := ⟨nq_8.1, nq_8.2, (tq7 (i := 194) rfl), (tq7 (i := 195) rfl)⟩
theorem lw_p57 : lw_okq (⟨"PutOffParadeModel", "readForgotten", "()Z"⟩, 20) := ⟨nq_8.1, nq_8.2, (tq7 (i := 204) rfl), (tq7 (i := 205) rfl)⟩
theorem lw_p58 : lw_okq (⟨"PutOffParadeModel", "isWaiting", "(I)Z"⟩, 20) := ⟨nq_8.1, nq_8.2, (tq7 (i := 208) rfl), (tq7 (i := 209) rfl)⟩
theorem lw_p59 : lw_okq (⟨"PutOffParadeModel", "of", "(II)I"⟩, 20) := ⟨nq_8.1, nq_8.2, (tq7 (i := 212) rfl), (tq7 (i := 213) rfl)⟩
theorem lw_p60 : lw_okq (⟨"PutOffParadeModel", "readNumber", "(III)Z"⟩, 20) := ⟨nq_8.1, nq_8.2, (tq7 (i := 217) rfl), (tq7 (i := 218) rfl)⟩
theorem lw_p61 : lw_okq (⟨"PutOffParadeModel", "readLawLine", "(I)Z"⟩, 20) := ⟨nq_8.1, nq_8.2, (tq7 (i := 225) rfl), (tq7 (i := 226) rfl)⟩
theorem lw_p62 : lw_okq (⟨"PutOffParadeModel", "readCond", "()Z"⟩, 20) := ⟨nq_8.1, nq_8.2, (tq7 (i := 233) rfl), (tq7 (i := 234) rfl)⟩
theorem lw_p63 : lw_okq (⟨"PutOffParadeModel", "readAllOf", "()Z"⟩, 20) := ⟨nq_8.1, nq_8.2, (tq7 (i := 237) rfl), (tq7 (i := 238) rfl)⟩
def lw_privs_4 : List (MethodName × Nat) := [(⟨"PutOffParadeModel", "readStreetLine", "()Z"⟩, 20), (⟨"PutOffParadeModel", "isWord", "(Ljava/lang/String;)Z"⟩, 20), (⟨"PutOffParadeModel", "readPerson", "()Z"⟩, 20), (⟨"PutOffParadeModel", "people", "()I"⟩, 20), (⟨"PutOffParadeModel", "numberBehind", "(Ljava/lang/String;II)I"⟩, 20), (⟨"PutOffParadeModel", "number", "(II)I"⟩, 20), (⟨"PutOffParadeModel", "readDuty", "()Z"⟩, 20), (⟨"PutOffParadeModel", "duties", "()I"⟩, 20), (⟨"PutOffParadeModel", "passes", "(Ljava/lang/String;)Z"⟩, 20), (⟨"PutOffParadeModel", "readForgotten", "()Z"⟩, 20), (⟨"PutOffParadeModel", "isWaiting", "(I)Z"⟩, 20), (⟨"PutOffParadeModel", "of", "(II)I"⟩, 20), (⟨"PutOffParadeModel", "readNumber", "(III)Z"⟩, 20), (⟨"PutOffParadeModel", "readLawLine", "(I)Z"⟩, 20), (⟨"PutOffParadeModel", "readCond", "()Z"⟩, 20), (⟨"PutOffParadeModel", "readAllOf", "()Z"⟩, 20)]
theorem lw_r4 : ∀ q ∈ lw_privs_4, lw_okq q := List.forall_mem_cons.mpr ⟨lw_p48, List.forall_mem_cons.mpr ⟨lw_p49, List.forall_mem_cons.mpr ⟨lw_p50, List.forall_mem_cons.mpr ⟨lw_p51, List.forall_mem_cons.mpr ⟨lw_p52, List.forall_mem_cons.mpr ⟨lw_p53, List.forall_mem_cons.mpr ⟨lw_p54, List.forall_mem_cons.mpr ⟨lw_p55, List.forall_mem_cons.mpr ⟨lw_p56, List.forall_mem_cons.mpr ⟨lw_p57, List.forall_mem_cons.mpr ⟨lw_p58, List.forall_mem_cons.mpr ⟨lw_p59, List.forall_mem_cons.mpr ⟨lw_p60, List.forall_mem_cons.mpr ⟨lw_p61, List.forall_mem_cons.mpr ⟨lw_p62, List.forall_mem_cons.mpr ⟨lw_p63, fun _ h => absurd h List.not_mem_nil⟩⟩⟩⟩⟩⟩⟩⟩⟩⟩⟩⟩⟩⟩⟩⟩
theorem lw_p64 : lw_okq (⟨"PutOffParadeModel", "readAtom", "()Z"⟩, 20) := ⟨nq_8.1, nq_8.2, (tq8 (i := 1) rfl), (tq8 (i := 2) rfl)⟩
theorem lw_p65 : lw_okq (⟨"PutOffParadeModel", "sign", "(I)Z"⟩, 20) := ⟨nq_8.1, nq_8.2, (tq8 (i := 5) rfl), (tq8 (i := 6) rfl)⟩
theorem lw_p66 : lw_okq (⟨"PutOffParadeModel", "emits", "(II)V"⟩, 20) := ⟨nq_8.1, nq_8.2, (tq8 (i := 10) rfl), (tq8 (i := 11) rfl)⟩
theorem lw_p67 : lw_okq (⟨"PutOffParadeModel", "readTag", "()Z"⟩, 20) := ⟨nq_8.1, nq_8.2, (tq8 (i := 14) rfl), (tq8 (i := 15) rfl)⟩
theorem lw_p68 : lw_okq (⟨"PutOffParadeModel", "readSum", "()Z"⟩, 20) := ⟨nq_8.1, nq_8.2, (tq8 (i := 20) rfl), (tq8 (i := 21) rfl)⟩
theorem lw_p69 : lw_okq (⟨"PutOffParadeModel", "readPart", "()Z"⟩, 20) := ⟨nq_8.1, nq_8.2, (tq8 (i := 24) rfl), (tq8 (i := 25) rfl)⟩
theorem lw_p70 : lw_okq (⟨"PutOffParadeModel", "wordOfPart", "()I"⟩, 20) := ⟨nq_8.1, nq_8.2, (tq8 (i := 28) rfl), (tq8 (i := 29) rfl)⟩
theorem lw_p71 : lw_okq (⟨"PutOffParadeModel", "throwsIf", "(ZI)Z"⟩, 20) := ⟨nq_8.1, nq_8.2, (tq8 (i := 37) rfl), (tq8 (i := 38) rfl)⟩
theorem lw_p72 : lw_okq (⟨"PutOffParadeModel", "placeOf", "(I)I"⟩, 20) := ⟨nq_8.1, nq_8.2, (tq8 (i := 49) rfl), (tq8 (i := 50) rfl)⟩
theorem lw_p73 : lw_okq (⟨"PutOffParadeModel", "goesAhead", "(II)Z"⟩, 20) := ⟨nq_8.1, nq_8.2, (tq8 (i := 53) rfl), (tq8 (i := 54) rfl)⟩
theorem lw_p74 : lw_okq (⟨"PutOffParadeModel", "canOnes", "()I"⟩, 20) := ⟨nq_8.1, nq_8.2, (tq8 (i := 61) rfl), (tq8 (i := 62) rfl)⟩
theorem lw_p75 : lw_okq (⟨"PutOffParadeModel", "canBeCalled", "(I)Z"⟩, 20) := ⟨nq_8.1, nq_8.2, (tq8 (i := 65) rfl), (tq8 (i := 66) rfl)⟩
theorem lw_p76 : lw_okq (⟨"PutOffParadeModel", "isReady", "(I)Z"⟩, 20) := ⟨nq_8.1, nq_8.2, (tq8 (i := 69) rfl), (tq8 (i := 70) rfl)⟩
theorem lw_p77 : lw_okq (⟨"PutOffParadeModel", "leansWell", "(I)Z"⟩, 20) := ⟨nq_8.1, nq_8.2, (tq8 (i := 73) rfl), (tq8 (i := 74) rfl)⟩
theorem lw_p78 : lw_okq (⟨"PutOffParadeModel", "isDone", "(I)Z"⟩, 20) := ⟨nq_8.1, nq_8.2, (tq8 (i := 77) rfl), (tq8 (i := 78) rfl)⟩
theorem lw_p79 : lw_okq (⟨"PutOffParadeModel", "passesBy", "(I)I"⟩, 20) := ⟨nq_8.1, nq_8.2, (tq8 (i := 81) rfl), (tq8 (i := 82) rfl)⟩
def lw_privs_5 : List (MethodName × Nat) := [(⟨"PutOffParadeModel", "readAtom", "()Z"⟩, 20), (⟨"PutOffParadeModel", "sign", "(I)Z"⟩, 20), (⟨"PutOffParadeModel", "emits", "(II)V"⟩, 20), (⟨"PutOffParadeModel", "readTag", "()Z"⟩, 20), (⟨"PutOffParadeModel", "readSum", "()Z"⟩, 20), (⟨"PutOffParadeModel", "readPart", "()Z"⟩, 20), (⟨"PutOffParadeModel", "wordOfPart", "()I"⟩, 20), (⟨"PutOffParadeModel", "throwsIf", "(ZI)Z"⟩, 20), (⟨"PutOffParadeModel", "placeOf", "(I)I"⟩, 20), (⟨"PutOffParadeModel", "goesAhead", "(II)Z"⟩, 20), (⟨"PutOffParadeModel", "canOnes", "()I"⟩, 20), (⟨"PutOffParadeModel", "canBeCalled", "(I)Z"⟩, 20), (⟨"PutOffParadeModel", "isReady", "(I)Z"⟩, 20), (⟨"PutOffParadeModel", "leansWell", "(I)Z"⟩, 20), (⟨"PutOffParadeModel", "isDone", "(I)Z"⟩, 20), (⟨"PutOffParadeModel", "passesBy", "(I)I"⟩, 20)]
theorem lw_r5 : ∀ q ∈ lw_privs_5, lw_okq q := List.forall_mem_cons.mpr ⟨lw_p64, List.forall_mem_cons.mpr ⟨lw_p65, List.forall_mem_cons.mpr ⟨lw_p66, List.forall_mem_cons.mpr ⟨lw_p67, List.forall_mem_cons.mpr ⟨lw_p68, List.forall_mem_cons.mpr ⟨lw_p69, List.forall_mem_cons.mpr ⟨lw_p70, List.forall_mem_cons.mpr ⟨lw_p71, List.forall_mem_cons.mpr ⟨lw_p72, List.forall_mem_cons.mpr ⟨lw_p73, List.forall_mem_cons.mpr ⟨lw_p74, List.forall_mem_cons.mpr ⟨lw_p75, List.forall_mem_cons.mpr ⟨lw_p76, List.forall_mem_cons.mpr ⟨lw_p77, List.forall_mem_cons.mpr ⟨lw_p78, List.forall_mem_cons.mpr ⟨lw_p79, fun _ h => absurd h List.not_mem_nil⟩⟩⟩⟩⟩⟩⟩⟩⟩⟩⟩⟩⟩⟩⟩⟩
theorem lw_p80 : lw_okq (⟨"PutOffParadeModel", "noDuty", "(I)Z"⟩, 20) := ⟨nq_8.1, nq_8.2, (tq8 (i := 89) rfl), (tq8 (i := 90) rfl)⟩
theorem lw_p81 : lw_okq (⟨"PutOffParadeModel", "whereAt", "(II)I"⟩, 20) := ⟨nq_8.1, nq_8.2, (tq8 (i := 106) rfl), (tq8 (i := 107) rfl)⟩
theorem lw_p82 : lw_okq (⟨"PutOffParadeModel", "canAll", "(I)Z"⟩, 20) := ⟨nq_8.1, nq_8.2, (tq8 (i := 120) rfl), (tq8 (i := 121) rfl)⟩
theorem lw_p83 : lw_okq (⟨"PutOffParadeModel", "noPerson", "(I)Z"⟩, 20) := ⟨nq_8.1, nq_8.2, (tq8 (i := 134) rfl), (tq8 (i := 135) rfl)⟩
theorem lw_p84 : lw_okq (⟨"PutOffParadeModel", "ownedBy", "(I)I"⟩, 20) := ⟨nq_8.1, nq_8.2, (tq8 (i := 138) rfl), (tq8 (i := 139) rfl)⟩
theorem lw_p85 : lw_okq (⟨"PutOffParadeModel", "loadOf", "(I)I"⟩, 20) := ⟨nq_8.1, nq_8.2, (tq8 (i := 142) rfl), (tq8 (i := 143) rfl)⟩
theorem lw_p86 : lw_okq (⟨"PutOffParadeModel", "waitingOf", "(I)I"⟩, 20) := ⟨nq_8.1, nq_8.2, (tq8 (i := 146) rfl), (tq8 (i := 147) rfl)⟩
theorem lw_p87 : lw_okq (⟨"PutOffParadeModel", "ofState", "(I)I"⟩, 20) := ⟨nq_8.1, nq_8.2, (tq8 (i := 150) rfl), (tq8 (i := 151) rfl)⟩
theorem lw_p88 : lw_okq (⟨"PutOffParadeModel", "hoursOf", "(I)I"⟩, 20) := ⟨nq_8.1, nq_8.2, (tq8 (i := 154) rfl), (tq8 (i := 155) rfl)⟩
theorem lw_p89 : lw_okq (⟨"PutOffParadeModel", "needsOf", "(I)I"⟩, 20) := ⟨nq_8.1, nq_8.2, (tq8 (i := 158) rfl), (tq8 (i := 159) rfl)⟩
theorem lw_p90 : lw_okq (⟨"PutOffParadeModel", "ofPerson", "(II)I"⟩, 20) := ⟨nq_8.1, nq_8.2, (tq8 (i := 162) rfl), (tq8 (i := 163) rfl)⟩
theorem lw_p91 : lw_okq (⟨"PutOffParadeModel", "shareOf", "(I)I"⟩, 20) := ⟨nq_8.1, nq_8.2, (tq8 (i := 169) rfl), (tq8 (i := 170) rfl)⟩
theorem lw_p92 : lw_okq (⟨"PutOffParadeModel", "shameOf", "(I)I"⟩, 20) := ⟨nq_8.1, nq_8.2, (tq8 (i := 173) rfl), (tq8 (i := 174) rfl)⟩
theorem lw_p93 : lw_okq (⟨"PutOffParadeModel", "shamesBy", "(I)I"⟩, 20) := ⟨nq_8.1, nq_8.2, (tq8 (i := 177) rfl), (tq8 (i := 178) rfl)⟩
theorem lw_p94 : lw_okq (⟨"PutOffParadeModel", "sumOf", "(II)I"⟩, 20) := ⟨nq_8.1, nq_8.2, (tq8 (i := 181) rfl), (tq8 (i := 182) rfl)⟩
theorem lw_p95 : lw_okq (⟨"PutOffParadeModel", "holdsLine", "(II)Z"⟩, 20) := ⟨nq_8.1, nq_8.2, (tq8 (i := 185) rfl), (tq8 (i := 186) rfl)⟩
def lw_privs_6 : List (MethodName × Nat) := [(⟨"PutOffParadeModel", "noDuty", "(I)Z"⟩, 20), (⟨"PutOffParadeModel", "whereAt", "(II)I"⟩, 20), (⟨"PutOffParadeModel", "canAll", "(I)Z"⟩, 20), (⟨"PutOffParadeModel", "noPerson", "(I)Z"⟩, 20), (⟨"PutOffParadeModel", "ownedBy", "(I)I"⟩, 20), (⟨"PutOffParadeModel", "loadOf", "(I)I"⟩, 20), (⟨"PutOffParadeModel", "waitingOf", "(I)I"⟩, 20), (⟨"PutOffParadeModel", "ofState", "(I)I"⟩, 20), (⟨"PutOffParadeModel", "hoursOf", "(I)I"⟩, 20), (⟨"PutOffParadeModel", "needsOf", "(I)I"⟩, 20), (⟨"PutOffParadeModel", "ofPerson", "(II)I"⟩, 20), (⟨"PutOffParadeModel", "shareOf", "(I)I"⟩, 20), (⟨"PutOffParadeModel", "shameOf", "(I)I"⟩, 20), (⟨"PutOffParadeModel", "shamesBy", "(I)I"⟩, 20), (⟨"PutOffParadeModel", "sumOf", "(II)I"⟩, 20), (⟨"PutOffParadeModel", "holdsLine", "(II)Z"⟩, 20)]
theorem lw_r6 : ∀ q ∈ lw_privs_6, lw_okq q := List.forall_mem_cons.mpr ⟨lw_p80, List.forall_mem_cons.mpr ⟨lw_p81, List.forall_mem_cons.mpr ⟨lw_p82, List.forall_mem_cons.mpr ⟨lw_p83, List.forall_mem_cons.mpr ⟨lw_p84, List.forall_mem_cons.mpr ⟨lw_p85, List.forall_mem_cons.mpr ⟨lw_p86, List.forall_mem_cons.mpr ⟨lw_p87, List.forall_mem_cons.mpr ⟨lw_p88, List.forall_mem_cons.mpr ⟨lw_p89, List.forall_mem_cons.mpr ⟨lw_p90, List.forall_mem_cons.mpr ⟨lw_p91, List.forall_mem_cons.mpr ⟨lw_p92, List.forall_mem_cons.mpr ⟨lw_p93, List.forall_mem_cons.mpr ⟨lw_p94, List.forall_mem_cons.mpr ⟨lw_p95, fun _ h => absurd h List.not_mem_nil⟩⟩⟩⟩⟩⟩⟩⟩⟩⟩⟩⟩⟩⟩⟩⟩
theorem lw_p96 : lw_okq (⟨"PutOffParadeModel", "factOf", "(III)I"⟩, 20) := ⟨nq_8.1, nq_8.2, (tq8 (i := 189) rfl), (tq8 (i := 190) rfl)⟩
theorem lw_p97 : lw_okq (⟨"PutOffParadeModel", "growsBy", "(I)I"⟩, 20) := ⟨nq_8.1, nq_8.2, (tq8 (i := 198) rfl), (tq8 (i := 199) rfl)⟩
theorem lw_p98 : lw_okq (⟨"PutOffParadeModel", "remembers", "()V"⟩, 20) := ⟨nq_8.1, nq_8.2, (tq8 (i := 206) rfl), (tq8 (i := 207) rfl)⟩
theorem lw_p99 : lw_okq (⟨"PutOffParadeModel", "finishes", "(I)V"⟩, 20) := ⟨nq_8.1, nq_8.2, (tq8 (i := 210) rfl), (tq8 (i := 211) rfl)⟩
theorem lw_p100 : lw_okq (⟨"PutOffParadeModel", "isNow", "(II)V"⟩, 20) := ⟨nq_8.1, nq_8.2, (tq8 (i := 214) rfl), (tq8 (i := 215) rfl)⟩
theorem lw_p101 : lw_okq (⟨"PutOffParadeModel", "isForgotten", "(I)Z"⟩, 20) := ⟨nq_8.1, nq_8.2, (tq8 (i := 230) rfl), (tq8 (i := 231) rfl)⟩
theorem lw_p102 : lw_okq (⟨"PutOffParadeModel", "goesOn", "(IZ)I"⟩, 20) := ⟨nq_8.1, nq_8.2, (tq9 (i := 10) rfl), (tq9 (i := 11) rfl)⟩
theorem lw_p103 : lw_okq (⟨"PutOffParadeModel", "oneDay", "(Z)I"⟩, 20) := ⟨nq_8.1, nq_8.2, (tq9 (i := 14) rfl), (tq9 (i := 15) rfl)⟩
theorem lw_p104 : lw_okq (⟨"PutOffParadeModel", "drawn", "(I)I"⟩, 20) := ⟨nq_8.1, nq_8.2, (tq9 (i := 18) rfl), (tq9 (i := 19) rfl)⟩
theorem lw_p105 : lw_okq (⟨"PutOffParadeModel", "works", "(I)I"⟩, 20) := ⟨nq_8.1, nq_8.2, (tq9 (i := 23) rfl), (tq9 (i := 24) rfl)⟩
theorem lw_p106 : lw_okq (⟨"PutOffParadeModel", "hasTool", "(II)Z"⟩, 20) := ⟨nq_8.1, nq_8.2, (tq9 (i := 27) rfl), (tq9 (i := 28) rfl)⟩
theorem lw_p107 : lw_okq (⟨"PutOffParadeModel", "growsOlder", "(I)V"⟩, 20) := ⟨nq_8.1, nq_8.2, (tq9 (i := 31) rfl), (tq9 (i := 32) rfl)⟩
theorem lw_p108 : lw_okq (⟨"PutOffParadeModel", "goesBy", "()V"⟩, 20) := ⟨nq_8.1, nq_8.2, (tq9 (i := 35) rfl), (tq9 (i := 36) rfl)⟩
theorem lw_p109 : lw_okq (⟨"PutOffParadeModel", "tells", "(II)V"⟩, 20) := ⟨nq_8.1, nq_8.2, (tq9 (i := 39) rfl), (tq9 (i := 40) rfl)⟩
theorem lw_p110 : lw_okq (⟨"PutOffParadeModel", "keepsAll", "()V"⟩, 20) := ⟨nq_8.1, nq_8.2, (tq9 (i := 50) rfl), (tq9 (i := 51) rfl)⟩
theorem lw_p111 : lw_okq (⟨"PutOffParadeModel", "bringsBack", "()V"⟩, 20) := ⟨nq_8.1, nq_8.2, (tq9 (i := 54) rfl), (tq9 (i := 55) rfl)⟩
def lw_privs_7 : List (MethodName × Nat) := [(⟨"PutOffParadeModel", "factOf", "(III)I"⟩, 20), (⟨"PutOffParadeModel", "growsBy", "(I)I"⟩, 20), (⟨"PutOffParadeModel", "remembers", "()V"⟩, 20), (⟨"PutOffParadeModel", "finishes", "(I)V"⟩, 20), (⟨"PutOffParadeModel", "isNow", "(II)V"⟩, 20), (⟨"PutOffParadeModel", "isForgotten", "(I)Z"⟩, 20), (⟨"PutOffParadeModel", "goesOn", "(IZ)I"⟩, 20), (⟨"PutOffParadeModel", "oneDay", "(Z)I"⟩, 20), (⟨"PutOffParadeModel", "drawn", "(I)I"⟩, 20), (⟨"PutOffParadeModel", "works", "(I)I"⟩, 20), (⟨"PutOffParadeModel", "hasTool", "(II)Z"⟩, 20), (⟨"PutOffParadeModel", "growsOlder", "(I)V"⟩, 20), (⟨"PutOffParadeModel", "goesBy", "()V"⟩, 20), (⟨"PutOffParadeModel", "tells", "(II)V"⟩, 20), (⟨"PutOffParadeModel", "keepsAll", "()V"⟩, 20), (⟨"PutOffParadeModel", "bringsBack", "()V"⟩, 20)]
theorem lw_r7 : ∀ q ∈ lw_privs_7, lw_okq q := List.forall_mem_cons.mpr ⟨lw_p96, List.forall_mem_cons.mpr ⟨lw_p97, List.forall_mem_cons.mpr ⟨lw_p98, List.forall_mem_cons.mpr ⟨lw_p99, List.forall_mem_cons.mpr ⟨lw_p100, List.forall_mem_cons.mpr ⟨lw_p101, List.forall_mem_cons.mpr ⟨lw_p102, List.forall_mem_cons.mpr ⟨lw_p103, List.forall_mem_cons.mpr ⟨lw_p104, List.forall_mem_cons.mpr ⟨lw_p105, List.forall_mem_cons.mpr ⟨lw_p106, List.forall_mem_cons.mpr ⟨lw_p107, List.forall_mem_cons.mpr ⟨lw_p108, List.forall_mem_cons.mpr ⟨lw_p109, List.forall_mem_cons.mpr ⟨lw_p110, List.forall_mem_cons.mpr ⟨lw_p111, fun _ h => absurd h List.not_mem_nil⟩⟩⟩⟩⟩⟩⟩⟩⟩⟩⟩⟩⟩⟩⟩⟩
theorem lw_p112 : lw_okq (⟨"PutOffParadeModel", "overIn", "(IZ)I"⟩, 20) := ⟨nq_8.1, nq_8.2, (tq9 (i := 62) rfl), (tq9 (i := 63) rfl)⟩
theorem lw_p113 : lw_okq (⟨"PutOffParadeModel", "allOver", "()I"⟩, 20) := ⟨nq_8.1, nq_8.2, (tq9 (i := 74) rfl), (tq9 (i := 75) rfl)⟩
theorem lw_p114 : lw_okq (⟨"PutOffParadeModel", "allDuties", "()I"⟩, 20) := ⟨nq_8.1, nq_8.2, (tq9 (i := 78) rfl), (tq9 (i := 79) rfl)⟩
theorem lw_p115 : lw_okq (⟨"PutOffParadeModel", "overWith", "(II)I"⟩, 20) := ⟨nq_8.1, nq_8.2, (tq9 (i := 86) rfl), (tq9 (i := 87) rfl)⟩
theorem lw_p116 : lw_okq (⟨"PutOffParadeModel", "ringOnes", "()I"⟩, 20) := ⟨nq_8.1, nq_8.2, (tq9 (i := 102) rfl), (tq9 (i := 103) rfl)⟩
theorem lw_p117 : lw_okq (⟨"PutOffParadeModel", "beforeOf", "(I)I"⟩, 20) := ⟨nq_8.1, nq_8.2, (tq9 (i := 106) rfl), (tq9 (i := 107) rfl)⟩
theorem lw_p118 : lw_okq (⟨"PutOffParadeModel", "soonOf", "(I)I"⟩, 20) := ⟨nq_8.1, nq_8.2, (tq9 (i := 126) rfl), (tq9 (i := 127) rfl)⟩
theorem lw_p119 : lw_okq (⟨"PutOffParadeModel", "chainOf", "(I)I"⟩, 20) := ⟨nq_8.1, nq_8.2, (tq9 (i := 130) rfl), (tq9 (i := 131) rfl)⟩
theorem lw_p120 : lw_okq (⟨"PutOffParadeModel", "olderOnes", "(I)I"⟩, 20) := ⟨nq_8.1, nq_8.2, (tq9 (i := 142) rfl), (tq9 (i := 143) rfl)⟩
theorem lw_p121 : lw_okq (⟨"PutOffParadeModel", "toDo", "(I)I"⟩, 20) := ⟨nq_8.1, nq_8.2, (tq9 (i := 154) rfl), (tq9 (i := 155) rfl)⟩
theorem lw_p122 : lw_okq (⟨"PutOffParadeModel", "leanWithin", "(I)Z"⟩, 20) := ⟨nq_8.1, nq_8.2, (tq9 (i := 158) rfl), (tq9 (i := 159) rfl)⟩
theorem lw_p123 : lw_okq (⟨"PutOffParadeModel", "isTold", "()Z"⟩, 20) := ⟨nq_8.1, nq_8.2, (tq9 (i := 166) rfl), (tq9 (i := 167) rfl)⟩
theorem lw_p124 : lw_okq (⟨"PutOffParadeModel", "allThatFit", "()I"⟩, 20) := ⟨nq_8.1, nq_8.2, (tq9 (i := 170) rfl), (tq9 (i := 171) rfl)⟩
theorem lw_p125 : lw_okq (⟨"PutOffParadeModel", "isGap", "(I)Z"⟩, 20) := ⟨nq_8.1, nq_8.2, (tq9 (i := 182) rfl), (tq9 (i := 183) rfl)⟩
theorem lw_p126 : lw_okq (⟨"PutOffParadeModel", "serves", "(IIII)Z"⟩, 20) := ⟨nq_8.1, nq_8.2, (tq9 (i := 198) rfl), (tq9 (i := 199) rfl)⟩
theorem lw_p127 : lw_okq (⟨"PutOffParadeModel", "hasBy", "(III)I"⟩, 20) := ⟨nq_8.1, nq_8.2, (tq9 (i := 206) rfl), (tq9 (i := 207) rfl)⟩
def lw_privs_8 : List (MethodName × Nat) := [(⟨"PutOffParadeModel", "overIn", "(IZ)I"⟩, 20), (⟨"PutOffParadeModel", "allOver", "()I"⟩, 20), (⟨"PutOffParadeModel", "allDuties", "()I"⟩, 20), (⟨"PutOffParadeModel", "overWith", "(II)I"⟩, 20), (⟨"PutOffParadeModel", "ringOnes", "()I"⟩, 20), (⟨"PutOffParadeModel", "beforeOf", "(I)I"⟩, 20), (⟨"PutOffParadeModel", "soonOf", "(I)I"⟩, 20), (⟨"PutOffParadeModel", "chainOf", "(I)I"⟩, 20), (⟨"PutOffParadeModel", "olderOnes", "(I)I"⟩, 20), (⟨"PutOffParadeModel", "toDo", "(I)I"⟩, 20), (⟨"PutOffParadeModel", "leanWithin", "(I)Z"⟩, 20), (⟨"PutOffParadeModel", "isTold", "()Z"⟩, 20), (⟨"PutOffParadeModel", "allThatFit", "()I"⟩, 20), (⟨"PutOffParadeModel", "isGap", "(I)Z"⟩, 20), (⟨"PutOffParadeModel", "serves", "(IIII)Z"⟩, 20), (⟨"PutOffParadeModel", "hasBy", "(III)I"⟩, 20)]
theorem lw_r8 : ∀ q ∈ lw_privs_8, lw_okq q := List.forall_mem_cons.mpr ⟨lw_p112, List.forall_mem_cons.mpr ⟨lw_p113, List.forall_mem_cons.mpr ⟨lw_p114, List.forall_mem_cons.mpr ⟨lw_p115, List.forall_mem_cons.mpr ⟨lw_p116, List.forall_mem_cons.mpr ⟨lw_p117, List.forall_mem_cons.mpr ⟨lw_p118, List.forall_mem_cons.mpr ⟨lw_p119, List.forall_mem_cons.mpr ⟨lw_p120, List.forall_mem_cons.mpr ⟨lw_p121, List.forall_mem_cons.mpr ⟨lw_p122, List.forall_mem_cons.mpr ⟨lw_p123, List.forall_mem_cons.mpr ⟨lw_p124, List.forall_mem_cons.mpr ⟨lw_p125, List.forall_mem_cons.mpr ⟨lw_p126, List.forall_mem_cons.mpr ⟨lw_p127, fun _ h => absurd h List.not_mem_nil⟩⟩⟩⟩⟩⟩⟩⟩⟩⟩⟩⟩⟩⟩⟩⟩
theorem lw_p128 : lw_okq (⟨"PutOffParadeModel", "oddsOf", "(III)I"⟩, 20) := ⟨nq_8.1, nq_8.2, (tq9 (i := 230) rfl), (tq9 (i := 231) rfl)⟩
theorem lw_p129 : lw_okq (⟨"PutOffParadeModel", "ofLog", "(II)I"⟩, 20) := ⟨nq_8.1, nq_8.2, (tq10 (i := 12) rfl), (tq10 (i := 13) rfl)⟩
theorem lw_p130 : lw_okq (⟨"PutOffParadeModel", "readyOnes", "()I"⟩, 20) := ⟨nq_8.1, nq_8.2, (tq10 (i := 28) rfl), (tq10 (i := 29) rfl)⟩
def lw_privs_9 : List (MethodName × Nat) := [(⟨"PutOffParadeModel", "oddsOf", "(III)I"⟩, 20), (⟨"PutOffParadeModel", "ofLog", "(II)I"⟩, 20), (⟨"PutOffParadeModel", "readyOnes", "()I"⟩, 20)]
theorem lw_r9 : ∀ q ∈ lw_privs_9, lw_okq q := List.forall_mem_cons.mpr ⟨lw_p128, List.forall_mem_cons.mpr ⟨lw_p129, List.forall_mem_cons.mpr ⟨lw_p130, fun _ h => absurd h List.not_mem_nil⟩⟩⟩
def lw_privs : List (MethodName × Nat) := lw_privs_1 ++ (lw_privs_2 ++ (lw_privs_3 ++ (lw_privs_4 ++ (lw_privs_5 ++ (lw_privs_6 ++ (lw_privs_7 ++ (lw_privs_8 ++ (lw_privs_9))))))))
def lw_tbl : List Cond := k2_sels lw_privs ++ tables_1
theorem lw_privs_ok : ∀ q ∈ lw_privs, lw_okq q := by
  show ∀ q ∈ lw_privs_1 ++ (lw_privs_2 ++ (lw_privs_3 ++ (lw_privs_4 ++ (lw_privs_5 ++ (lw_privs_6 ++ (lw_privs_7 ++ (lw_privs_8 ++ (lw_privs_9)))))))), lw_okq q
  exact List.forall_mem_append.mpr ⟨lw_r1, List.forall_mem_append.mpr ⟨lw_r2, List.forall_mem_append.mpr ⟨lw_r3, List.forall_mem_append.mpr ⟨lw_r4, List.forall_mem_append.mpr ⟨lw_r5, List.forall_mem_append.mpr ⟨lw_r6, List.forall_mem_append.mpr ⟨lw_r7, List.forall_mem_append.mpr ⟨lw_r8, lw_r9⟩⟩⟩⟩⟩⟩⟩⟩
-- ===== end of PART A; then your names; then what follows =====
/-! ===== BEGIN words of one list among another's, by their places ===== -/
theorem goodIn_r {big : List Cond} (ws : List Cond) (ps : List Nat) (hp : ws = ps.filterMap (fun i => big[i]?)) (h : ws.all goodWord = true) : GoodIn big ws := by
  intro w hw
  have h1 := List.all_eq_true.mp h w hw
  rw [hp] at hw
  obtain ⟨i, -, hi⟩ := List.mem_filterMap.mp hw
  have hm : w ∈ big := by first | exact List.mem_of_getElem? hi | exact List.getElem?_mem hi
  exact ⟨hm, good_of_word h1⟩
theorem goodIn_app {big a b : List Cond} (ha : GoodIn big a) (hb : GoodIn big b) : GoodIn big (a ++ b) := fun w h => (List.mem_append.mp h).elim (ha w) (hb w)
theorem goodIn_ca {big a b : List Cond} {c : Cond} (ha : GoodIn big (c :: a)) (hb : GoodIn big b) : GoodIn big (c :: (a ++ b)) := fun w h => (List.mem_cons.mp h).elim (fun e => ha w (List.mem_cons.mpr (Or.inl e))) (fun h => (List.mem_append.mp h).elim (fun h => ha w (List.mem_cons.mpr (Or.inr h))) (hb w))
theorem goodIn_sub {big ws : List Cond} (hm : ∀ w ∈ ws, w ∈ big) (h : ws.all goodWord = true) : GoodIn big ws := fun w hw => ⟨hm w hw, good_of_word (List.all_eq_true.mp h w hw)⟩
/-! ===== END ===== -/

/-! ===== BEGIN exceptions that leave a method, and their catching by the caller (launches without stack traces) ===== -/
section VXA
/-! The laws vx_back, vx_callV, vx_callS, vx_callSW, vx_throw0, vx_throwS follow proofs of the library, with one case more: JvmDerived/Free/Laws.lean (Back.of_free), Shelf42/LK1.lean (callV, callS), Shelf/KitTraced.lean (throwNew0V, throwNewS). -/
/-- where a method has thrown q: the class by its name, the cell, what was written, the world -/
def vx_T (XC : String → State → State → Prop) (st : State) (q : Addr) (t : State) (mc ms : Nat) (free : Addr → Prop) : Prop :=
  ∃ (E : String) (ce : Cell) (L : List Loc), XC E st t ∧ t.heap[q]? = some ce ∧ ce.vm = .none ∧ st.vm.findClass E = some ce.cls ∧ st.WarmedH t.vm ∧ st.sameButNew ({ t with vm := st.vm } : State) L mc ms ∧ ∀ z ∈ L, free z.base
def vx_Q (Qc : Array Value → State → Outcome → State → Prop) (XC : String → State → State → Prop) (mc ms : Nat) (free : Addr → Prop) : Array Value → State → Outcome → State → Prop := fun a st o t =>
  (Qc a st o t ∧ ∃ L, FrameEnd st o t L mc ms ∧ ∀ q ∈ L, free q.base) ∨ ∃ q, o = .threw q ∧ vx_T XC st q t mc ms free
/-- a callee that returns or throws -/
def vx_Met (l : Launch) (y : MethodName) (ws : List Cond) (rm : Room) (Pc : Array Value → State → Prop) (Qc : Array Value → State → Outcome → State → Prop) (XC : String → State → State → Prop) (mc ms : Nat) (free : Addr → Prop) : Prop :=
  MetFree l y (headSpec ws rm) Pc (fun _ _ _ _ _ => True) (vx_Q Qc XC mc ms free)
def vx_Post (XC : String → State → State → Prop) (mc ms : Nat) (free : Addr → Prop) : Pt → Array Value → Addr → Pt → Prop := fun A a q B =>
  ∃ (g : JFrame) (mk : MethodId) (t : State) (L : List Loc) (E : String) (ce : Cell), B.U.heap = t.heap ∧ B.U.vm = t.vm ∧ XC E (A.U.calling g mk a) t ∧ t.heap[q]? = some ce ∧ ce.vm = .none ∧ A.U.vm.findClass E = some ce.cls ∧ B.locs = A.locs ++ L ∧ (∀ z ∈ L, free z.base) ∧ B.cells = A.cells + mc ∧ B.slots = A.slots + ms
def vx_Back (l : Launch) (R : Room) (p : Program) (e : Env) (below : List Frame) (s : State) (sargs : Array Value) (y : MethodName) (len W9 : Nat)
    (Pre : Pt → Array Value → Prop) (Post : Pt → Array Value → Option Value → Pt → Prop) (PostX : Pt → Array Value → Addr → Pt → Prop) : Prop :=
  ∀ (m : MethodId) (meth : Method) (c : Code) (A : Pt) (g : JFrame) (ig : Instr) (mk : MethodId) (a : Array Value),
    Stand p l e R s m sargs below meth c A.U A.locs A.cells A.slots → g.method = m → g.locals.size = c.maxLocals → decode c.code g.pc = .ok (ig, len) →
    2 * g.monitorRoom + (g.stack.map fun v => v.category).sum ≤ W9 → A.U.methodNamed? y = some mk → Pre A a →
    (∃ (v : Option Value) (B : Pt), Stand p l e R s m sargs below meth c B.U B.locs B.cells B.slots ∧ Post A a v B ∧
      Steps p.tables e below (doInvoke e (A.U.setTop g) [] mk a).1 (B.U.setTop { g with pc := g.pc + len, stack := v.toList ++ g.stack })) ∨
    (∃ (q : Addr) (B : Pt), Stand p l e R s m sargs below meth c B.U B.locs B.cells B.slots ∧ PostX A a q B ∧
      Steps p.tables e below (doInvoke e (A.U.setTop g) [] mk a).1 ((B.U.setTop g).pushFrame (.throwing q)))
section Payer
variable {l : Launch} {R : Room} {p : Program} {e : Env} {below : List Frame} {s : State} {sargs : Array Value} {y : MethodName} {len W9 : Nat}
theorem vx_back {ws : List Cond} {rm : Room} {Pc : Array Value → State → Prop} {Qc : Array Value → State → Outcome → State → Prop} {XC : String → State → State → Prop} {mc ms : Nat} {free : Addr → Prop} {bytes : ByteArray} {maxL : Nat} {ret : Option FieldType}
    (hM : vx_Met l y ws rm Pc Qc XC mc ms free) (hblind : FrameBlind Pc) (hrc : rm.cells = mc) (hrs : rm.slots = ms)
    (hframes : rm.frames + 1 ≤ R.frames) (hlocals : W9 + (maxL + 11) + rm.locals ≤ R.locals)
    (hws : ∀ w ∈ ws, ∀ a' U, s.WarmedH U.vm → w.before a' U = true) (hcode : Cond.code y bytes maxL ret ∈ ws) (hinit : ∀ a' U, s.WarmedH U.vm → (Cond.initialized y.cls).before a' U = true) :
    vx_Back l R p e below s sargs y len W9 (PreOf R mc ms Pc) (PostOf Qc mc ms free) (vx_Post XC mc ms free) := by
  intro m meth c A g ig mk a X hg hsize hdg hW hn hp
  have h1 : (headSpec ws rm).pre.before a A.U = true := atoms_intro fun w hw => hws w hw _ _ X.warmed
  have h2 : (Cond.code y bytes maxL ret).before a A.U = true := hws _ hcode _ _ X.warmed
  have h3 : (Cond.initialized y.cls).before a A.U = true := hinit _ _ X.warmed
  have h4 : A.cells + (headSpec ws rm).room.cells ≤ R.cells := by rw [show (headSpec ws rm).room.cells = mc from hrc]; exact hp.1
  have h5 : A.slots + (headSpec ws rm).room.slots ≤ R.slots := by rw [show (headSpec ws rm).room.slots = ms from hrs]; exact hp.2.1
  have hPc : Pc a (A.U.calling g mk a) := hblind _ _ _ _ hp.2.2
  obtain ⟨U, Ls, c0, s0⟩ := A
  dsimp only [Pt.U, Pt.locs, Pt.cells, Pt.slots] at h1 h2 h3 h4 h5 X hn hPc ⊢
  obtain ⟨methY, cY, hmY, hcY, -, hlY, -, -, -, -⟩ := Cond.code_spec hn h2
  obtain ⟨kY, hkY, -⟩ := className_of_methodNamed hn
  have hinitY : kY.init = .initialized := Cond.initialized_spec (findClass_of_methodNamed hn) hkY h3
  have h : At U g.method c below := by rw [hg]; exact X.here
  have hlocals9 : W9 + (maxL + 11) + (headSpec ws rm).room.locals ≤ R.locals := hlocals
  have happ : (headSpec ws rm).appliesLoose y e.platform (U.calling g mk a) = true :=
    Spec.appliesLoose_calling (g := g) h hdg hn hkY hinitY
      (X.room_calling (g := g) (R' := (headSpec ws rm).room) hsize hmY hcY hframes (by rw [hlY]; omega) h4 h5) h1
  obtain ⟨mid, hmid⟩ := h.above
  have hfr : (U.setTop g).frames = (.java g :: mid) ++ below := by rw [State.frames_setTop' g h.top, hmid]; rfl
  obtain ⟨o, s₂, hsteps, -, hend, hq⟩ := Steps.callFree hM p X.admits X.cas X.clock (acts := []) hfr happ hPc trivial
  have hq' : vx_Q Qc XC mc ms free a (U.calling g mk a) o s₂ := hq
  rw [State.frames_setTop' g h.top] at hend
  obtain ⟨g₀, hg0⟩ := Option.isSome_iff_exists.mp h.top
  obtain ⟨r, hr⟩ := State.topJava?_eq_some.mp hg0
  have hr' : (({ U with heap := s₂.heap, slotsUsed := s₂.slotsUsed } : State).setVm s₂.vm).frames = .java g₀ :: r := hr
  rcases hq' with ⟨hqc, L, hfe, hL⟩ | ⟨q, rfl, E, ce, L, hx, hce, hcv, hcl, hW₂, hsm, hL⟩
  · obtain ⟨⟨v, rfl⟩, hW₂, e2, q2, q3, q4, q5, q6⟩ := id hfe
    have e3 : s₂ = ({ (U.calling g mk a).setFrames s₂.frames with heap := s₂.heap, slotsUsed := s₂.slotsUsed } : State).setVm s₂.vm := by
      have : s₂ = ({ s₂ with vm := (U.calling g mk a).vm } : State).setVm s₂.vm := rfl
      rw [e2] at this
      exact this
    obtain ⟨c₂, i₂, len₂, hc₂, hd₂, hf₂⟩ := hend
    have hW' : U.WarmedH s₂.vm := hW₂
    have hcc : c₂ = c := by
      have h1 : s₂.code? g.method = U.code? g.method := by
        rw [State.code?_eq, State.code?_eq, hW'.alike.method?]
      exact Option.some.inj (hc₂.symm.trans (h1.trans h.code))
    subst hcc
    have hlen : len₂ = len := by rw [hdg] at hd₂; cases hd₂; rfl
    subst hlen
    have hs₂ : s₂ = (({ U with heap := s₂.heap, slotsUsed := s₂.slotsUsed } : State).setVm s₂.vm).setTop { g with pc := g.pc + len₂, stack := v.toList ++ g.stack } := by
      refine e3.trans ?_
      rw [hf₂, State.calling_eq h.top, State.setFrames_setFrames, State.setTop_of_frames _ hr', hr]
      rfl
    have hsame : U.sameButNew ({ U with heap := s₂.heap, slotsUsed := s₂.slotsUsed } : State) L mc ms := by
      refine ⟨?_, q2, q3, q4, q5, q6⟩
      obtain ⟨t, ht, -⟩ := State.frames_cons hr
      show ({ U with heap := s₂.heap, slotsUsed := s₂.slotsUsed } : State) = { U.setFrames U.frames with heap := s₂.heap, slotsUsed := s₂.slotsUsed }
      rw [State.setFrames_self ht]
    subst hg
    refine Or.inl ⟨v, ⟨(({ U with heap := s₂.heap, slotsUsed := s₂.slotsUsed } : State).setVm s₂.vm), Ls ++ L, c0 + mc, s0 + ms⟩,
      ⟨X.admits, X.cas, X.clock, X.frames, X.room, X.hears, X.method, X.code, (X.here.setHeapUsed s₂.heap s₂.slotsUsed).setVm hW'.alike, X.tail, State.WarmedH.trans X.warmed hW', X.limits, X.bytes, X.same.trans (hsame.setVm s.vm)⟩,
      ⟨g, mk, s₂, L, rfl, rfl, hqc, rfl, hL, rfl, rfl⟩, ?_⟩
    show Steps p.tables e below _ ((({ U with heap := s₂.heap, slotsUsed := s₂.slotsUsed } : State).setVm s₂.vm).setTop { g with pc := g.pc + len₂, stack := v.toList ++ g.stack })
    rw [← hs₂]
    exact hsteps
  · obtain ⟨e2, q2, q3, q4, q5, q6⟩ := id hsm
    have e3 : s₂ = ({ (U.calling g mk a).setFrames s₂.frames with heap := s₂.heap, slotsUsed := s₂.slotsUsed } : State).setVm s₂.vm := by
      have : s₂ = ({ s₂ with vm := (U.calling g mk a).vm } : State).setVm s₂.vm := rfl
      rw [e2] at this
      exact this
    have hf₂ : s₂.frames = .throwing q :: .java g :: U.frames.tail := hend
    have hW' : U.WarmedH s₂.vm := hW₂
    have hs₂ : s₂ = ((({ U with heap := s₂.heap, slotsUsed := s₂.slotsUsed } : State).setVm s₂.vm).setTop g).pushFrame (.throwing q) := by
      refine e3.trans ?_
      rw [hf₂, State.calling_eq h.top, State.setFrames_setFrames, State.pushFrame, State.frames_setTop _ hr', State.setTop_of_frames _ hr', State.setFrames_setFrames, hr]
      rfl
    have hsame : U.sameButNew ({ U with heap := s₂.heap, slotsUsed := s₂.slotsUsed } : State) L mc ms := by
      refine ⟨?_, q2, q3, q4, q5, q6⟩
      obtain ⟨t, ht, -⟩ := State.frames_cons hr
      show ({ U with heap := s₂.heap, slotsUsed := s₂.slotsUsed } : State) = { U.setFrames U.frames with heap := s₂.heap, slotsUsed := s₂.slotsUsed }
      rw [State.setFrames_self ht]
    subst hg
    refine Or.inr ⟨q, ⟨(({ U with heap := s₂.heap, slotsUsed := s₂.slotsUsed } : State).setVm s₂.vm), Ls ++ L, c0 + mc, s0 + ms⟩,
      ⟨X.admits, X.cas, X.clock, X.frames, X.room, X.hears, X.method, X.code, (X.here.setHeapUsed s₂.heap s₂.slotsUsed).setVm hW'.alike, X.tail, State.WarmedH.trans X.warmed hW', X.limits, X.bytes, X.same.trans (hsame.setVm s.vm)⟩,
      ⟨g, mk, s₂, L, E, ce, rfl, rfl, hx, hce, hcv, hcl, rfl, hL, rfl, rfl⟩, ?_⟩
    show Steps p.tables e below _ (((({ U with heap := s₂.heap, slotsUsed := s₂.slotsUsed } : State).setVm s₂.vm).setTop g).pushFrame (.throwing q))
    rw [← hs₂]
    exact hsteps
end Payer
section Calls
variable {p : Program} {l : Launch} {e : Env} {R : Room} {s : State} {m : MethodId} {args : Array Value} {below : List Frame} {meth : Method} {c : Code} {T : State} {locs : List Loc} {cells slots : Nat}
theorem vx_callV (X : Stand p l e R s m args below meth c T locs cells slots) (hexec : p.tables.exec = Jvm.exec) {own C : String} {index : Nat} {y : MethodName} {bytes : ByteArray} {maxL : Nat} {ret : Option FieldType}
    (hown : s.vm.findClass own = some m.cls) (hlink : (Cond.methodLink own index y).before args s = true) (hinst : (Cond.instanceMethod y).before args s = true) (hsel : (Cond.selects C y y).before args s = true)
    (hcode : (Cond.code y bytes maxL ret).before args s = true) (hy : y.cls ≠ "java/lang/invoke/MethodHandle" ∧ y.cls ≠ "java/lang/invoke/VarHandle")
    {W9 : Nat} {Pre : Pt → Array Value → Prop} {Post : Pt → Array Value → Option Value → Pt → Prop} {PostX : Pt → Array Value → Addr → Pt → Prop} (hK : vx_Back l R p e below s args y 3 W9 Pre Post PostX)
    {b : Addr} {cellB : Cell} (hcell : T.heap[b]? = some cellB) (hobj : cellB.vm.isStatics = false) (hcls : s.vm.findClass C = some cellB.cls)
    {g : JFrame} (hg : g.method = m) (hsize : g.locals.size = c.maxLocals) {argsL rest : List Value} (hlen : ∀ sig, parseMethodDescriptor y.desc = some sig → argsL.length = sig.parameters.length)
    (hstack : g.stack = argsL.reverse ++ .ref b :: rest) (hW : 2 * g.monitorRoom + (rest.map fun v => v.category).sum ≤ W9) (hdg : decode c.code g.pc = .ok (.invokevirtual index, 3))
    (hpre : ∀ vm₁, s.WarmedH vm₁ → Pre ⟨T.setVm vm₁, locs, cells, slots⟩ (Value.ref b :: argsL).toArray) :
    (∃ (v : Option Value) (vm₁ : Vm) (B : Pt), s.WarmedH vm₁ ∧ Stand p l e R s m args below meth c B.U B.locs B.cells B.slots ∧ Post ⟨T.setVm vm₁, locs, cells, slots⟩ (Value.ref b :: argsL).toArray v B ∧
      ∀ target, Steps p.tables e below (B.U.setTop { g with pc := g.pc + 3, stack := v.toList ++ rest }) target → Steps p.tables e below (T.setTop g) target) ∨
    (∃ (q : Addr) (vm₁ : Vm) (B : Pt), s.WarmedH vm₁ ∧ Stand p l e R s m args below meth c B.U B.locs B.cells B.slots ∧ PostX ⟨T.setVm vm₁, locs, cells, slots⟩ (Value.ref b :: argsL).toArray q B ∧
      Steps p.tables e below (T.setTop g) ((B.U.setTop { g with stack := rest }).pushFrame (.throwing q))) := by
  obtain ⟨mk, methM, hnamed, hmethM, hstM, habM⟩ := Cond.instanceMethod_spec hinst
  obtain ⟨methM', cM, hmethM', -, -, -, -, -, -, hsigM⟩ := Cond.code_spec hnamed hcode
  cases hmethM.symm.trans hmethM'
  obtain ⟨c2, r2, m2, q1, q2, q3, q4, kP, hkP, hkPi⟩ := Cond.selects_spec hsel
  cases hcls.symm.trans q1
  cases (State.methodFound?_of_named hnamed hy).symm.trans q2
  cases hnamed.symm.trans q3
  have hselP : selectMethod e.platform s.vm cellB.cls mk = .method mk := by rw [Launch.admits_selectMethod X.admits]; exact q4
  obtain ⟨vm₁, X₁, hstep₁⟩ := X.invokevirtual hexec hown hlink hnamed hmethM hstM hkP hkPi hy (a := b) (cell := cellB) hcell
    (fun z h => by rw [h] at hobj; cases hobj) hselP hmethM habM hkP hkPi (g := g) hg (argsL := argsL) (rest := rest) (hlen _ hsigM) hstack hdg
  rcases hK m meth c ⟨T.setVm vm₁, locs, cells, slots⟩ { g with stack := rest } (.invokevirtual index) mk (Value.ref b :: argsL).toArray X₁ hg hsize hdg hW (X₁.named hnamed) (hpre vm₁ X₁.warmed) with ⟨v, B, X', hpost, hsteps⟩ | ⟨q, B, X', hpost, hsteps⟩
  · exact Or.inl ⟨v, vm₁, B, X₁.warmed, X', hpost, fun target h => hstep₁ _ fun acts => by rw [doInvoke_state]; exact hsteps.trans h⟩
  · exact Or.inr ⟨q, vm₁, B, X₁.warmed, X', hpost, hstep₁ _ fun acts => by rw [doInvoke_state]; exact hsteps⟩
theorem vx_callS (X : Stand p l e R s m args below meth c T locs cells slots) (hexec : p.tables.exec = Jvm.exec) {own : String} {index : Nat} {y : MethodName} {bytes : ByteArray} {maxL : Nat} {ret : Option FieldType}
    (hown : s.vm.findClass own = some m.cls) (hlink : (Cond.methodLink own index y).before args s = true) (hstat : (Cond.static y).before args s = true) (hinit : (Cond.initialized y.cls).before args s = true)
    (hcode : (Cond.code y bytes maxL ret).before args s = true) (hy : y.cls ≠ "java/lang/invoke/MethodHandle" ∧ y.cls ≠ "java/lang/invoke/VarHandle")
    {W9 : Nat} {Pre : Pt → Array Value → Prop} {Post : Pt → Array Value → Option Value → Pt → Prop} {PostX : Pt → Array Value → Addr → Pt → Prop} (hK : vx_Back l R p e below s args y 3 W9 Pre Post PostX)
    {g : JFrame} (hg : g.method = m) (hsize : g.locals.size = c.maxLocals) {argsL rest : List Value} (hlen : ∀ sig, parseMethodDescriptor y.desc = some sig → argsL.length = sig.parameters.length)
    (hstack : g.stack = argsL.reverse ++ rest) (hW : 2 * g.monitorRoom + (rest.map fun v => v.category).sum ≤ W9) (hdg : decode c.code g.pc = .ok (.invokestatic index, 3))
    (hpre : ∀ vm₁, s.WarmedH vm₁ → Pre ⟨T.setVm vm₁, locs, cells, slots⟩ argsL.toArray) :
    (∃ (v : Option Value) (vm₁ : Vm) (B : Pt), s.WarmedH vm₁ ∧ Stand p l e R s m args below meth c B.U B.locs B.cells B.slots ∧ Post ⟨T.setVm vm₁, locs, cells, slots⟩ argsL.toArray v B ∧
      ∀ target, Steps p.tables e below (B.U.setTop { g with pc := g.pc + 3, stack := v.toList ++ rest }) target → Steps p.tables e below (T.setTop g) target) ∨
    (∃ (q : Addr) (vm₁ : Vm) (B : Pt), s.WarmedH vm₁ ∧ Stand p l e R s m args below meth c B.U B.locs B.cells B.slots ∧ PostX ⟨T.setVm vm₁, locs, cells, slots⟩ argsL.toArray q B ∧
      Steps p.tables e below (T.setTop g) ((B.U.setTop { g with stack := rest }).pushFrame (.throwing q))) := by
  obtain ⟨mk, hnamed⟩ := Cond.code_named hcode
  obtain ⟨methM, cM, hmethM, -, -, -, -, -, -, hsigM⟩ := Cond.code_spec hnamed hcode
  have hstatic : methM.isStatic = true := Cond.static_spec hnamed hmethM hstat
  obtain ⟨kP, hkP, -⟩ := className_of_methodNamed hnamed
  have hinitP : kP.init = .initialized := Cond.initialized_spec (findClass_of_methodNamed hnamed) hkP hinit
  obtain ⟨vm₁, X₁, hstep₁⟩ := X.invokestatic hexec hown hlink hnamed hmethM hstatic hkP hinitP hy (g := g) hg (argsL := argsL) (rest := rest) (hlen _ hsigM) hstack hdg
  rcases hK m meth c ⟨T.setVm vm₁, locs, cells, slots⟩ { g with stack := rest } (.invokestatic index) mk argsL.toArray X₁ hg hsize hdg hW (X₁.named hnamed) (hpre vm₁ X₁.warmed) with ⟨v, B, X', hpost, hsteps⟩ | ⟨q, B, X', hpost, hsteps⟩
  · exact Or.inl ⟨v, vm₁, B, X₁.warmed, X', hpost, fun target h => hstep₁ _ fun acts => by rw [doInvoke_state]; exact hsteps.trans h⟩
  · exact Or.inr ⟨q, vm₁, B, X₁.warmed, X', hpost, hstep₁ _ fun acts => by rw [doInvoke_state]; exact hsteps⟩
end Calls
theorem vx_cls {s : State} {T : State} {vm₁ : Vm} {E : String} {k : ClassId} (hW : s.WarmedH vm₁) (h : (T.setVm vm₁).vm.findClass E = some k) : s.vm.findClass E = some k := by
  have h1 : vm₁.findClass E = some k := h
  rw [hW.alike.findClass] at h1
  exact h1
/-- the method's frame g, with q thrown over it -/
def vx_W (p : Program) (l : Launch) (e : Env) (R : Room) (s : State) (m : MethodId) (args : Array Value) (below : List Frame) (meth : Method) (c : Code) (H : Heap) (locs : List Loc) (cells slots : Nat) (Q : State → Prop) (g : JFrame) (q : Addr) : Prop :=
  ∀ T : State, T.heap = H → Stand p l e R s m args below meth c T locs cells slots → ∃ t, Steps p.tables e below ((T.setTop g).pushFrame (.throwing q)) t ∧ Q t
def vx_Run (p : Program) (l : Launch) (e : Env) (R : Room) (s : State) (m : MethodId) (args : Array Value) (below : List Frame) (meth : Method) (c : Code) (H : Heap) (locs : List Loc) (cells slots mc ms : Nat) (g : JFrame) (rest : List Value) (Qa : State → Outcome → State → Prop) (XC : String → State → State → Prop) (free : Addr → Prop) : Prop :=
  ∀ T : State, T.heap = H → Stand p l e R s m args below meth c T locs cells slots →
    (∃ (v : Option Value) (st₀ t T' : State) (L : List Loc), st₀.heap = H ∧ Stand p l e R s m args below meth c T' (locs ++ L) (cells + mc) (slots + ms) ∧ (∀ q ∈ L, free q.base) ∧ T'.heap = t.heap ∧ T'.vm = t.vm ∧ Qa st₀ (.returned v) t ∧
      Goes p e below T g T' { g with pc := g.pc + 3, stack := v.toList ++ rest }) ∨
    (∃ (q : Addr) (st₀ t T' : State) (L : List Loc) (E : String) (ce : Cell), st₀.heap = H ∧ Stand p l e R s m args below meth c T' (locs ++ L) (cells + mc) (slots + ms) ∧ (∀ z ∈ L, free z.base) ∧ T'.heap = t.heap ∧ T'.vm = t.vm ∧ XC E st₀ t ∧ t.heap[q]? = some ce ∧ ce.vm = .none ∧ s.vm.findClass E = some ce.cls ∧
      Steps p.tables e below (T.setTop g) ((T'.setTop { g with stack := rest }).pushFrame (.throwing q)))
def vx_X {S : Type} (px : S → Prop) (B : String → S → State → Prop) (A : Nat → Prop) : String → State → State → Prop := fun E st t => ∃ u : S, px u ∧ B E u t ∧ va_F A st t
section Runs
variable {p : Program} {l : Launch} {e : Env} {R : Room} {s : State} {m : MethodId} {args : Array Value} {below : List Frame} {meth : Method} {c : Code} {H : Heap} {locs : List Loc} {cells slots : Nat}
variable {y : MethodName} {bytes cc : ByteArray} {maxL nL mc ms n index : Nat} {ret : Option FieldType} {ws : List Cond} {rm : Room} {Pc : Array Value → State → Prop} {Qc : Array Value → State → Outcome → State → Prop} {XC : String → State → State → Prop} {free : Addr → Prop} {Ts : List Cond} {own C : String} {b : Addr} {As rest : List Value} {g : JFrame}
theorem vx_callBack (cb : CallB R s args own index y bytes maxL ret ws rm mc ms n) (hM : vx_Met l y ws rm Pc Qc XC mc ms free) (hbl : FrameBlind Pc) : vx_Back l R p e below s args y 3 8 (PreOf R mc ms Pc) (PostOf Qc mc ms free) (vx_Post XC mc ms free) := by
  obtain ⟨hrc, hrs, hfr, hlo, hws, hcw, -, hini, -⟩ := cb
  exact vx_back (bytes := bytes) (maxL := maxL) (ret := ret) hM hbl hrc hrs hfr hlo hws hcw (fun a' U hW => word_at hW (Or.inl (by first | rfl | simp [Cond.onTables, Cond.keeps, Cond.steady])) hini)
theorem vx_runV (S : CallFix p m c cc nL s args Ts own) (hM : vx_Met l y ws rm Pc Qc XC mc ms free) (cw : CallW R s args own C index y bytes maxL ret ws rm mc ms n) (hp : PreV s H C b Pc As)
    (hg : g.method = m) (hn : As.length = n) (hsize : g.locals.size = nL) (hstack : g.stack = As.reverse ++ .ref b :: rest) (hW : 2 * g.monitorRoom + (rest.map fun v => v.category).sum ≤ 8) (hdg : decode cc g.pc = .ok (.invokevirtual index, 3)) (hf : cells + mc ≤ R.cells ∧ slots + ms ≤ R.slots) :
    vx_Run p l e R s m args below meth c H locs cells slots mc ms g rest (Qc (Value.ref b :: As).toArray) XC free := by
  have hK : vx_Back l R p e below s args y 3 8 (PreOf R mc ms Pc) (PostOf Qc mc ms free) (vx_Post XC mc ms free) := vx_callBack cw.1 hM hp.1
  obtain ⟨⟨-, -, -, -, -, -, hcode, -, hy, hlen, hl⟩, hin, hse⟩ := cw
  obtain ⟨hx, hb, hml, ho, -⟩ := S
  obtain ⟨-, ⟨cellB, hcB, hoB, hclB⟩, hPc⟩ := hp
  intro T hT X
  rcases vx_callV X hx (C := C) (bytes := bytes) (maxL := maxL) (ret := ret) ho hl hin hse hcode hy hK (by rw [hT]; exact hcB) hoB hclB hg (hsize.trans hml.symm) (argsL := As) (rest := rest) (fun sig h => hn.trans (hlen sig h)) hstack hW (by rw [hb]; exact hdg)
    (fun vm₁ hW₁ => ⟨hf.1, hf.2, hPc (T.setVm vm₁) hT hW₁⟩) with ⟨v, vm₁, ⟨U', l2, c2, s2⟩, hW₁, X', ⟨g', mk, t, L, e1, e2, hq, h1, hL, h2, h3⟩, st⟩ | ⟨q, vm₁, ⟨U', l2, c2, s2⟩, hW₁, X', ⟨g', mk, t, L, E, ce, e1, e2, hq, hce, hcv, hcl, h1, hL, h2, h3⟩, st⟩
  · dsimp only [Pt.U, Pt.locs, Pt.cells, Pt.slots] at X' e1 e2 h1 h2 h3 st
    subst h1; subst h2; subst h3
    exact Or.inl ⟨v, (T.setVm vm₁).calling g' mk (Value.ref b :: As).toArray, t, U', L, hT, X', hL, e1, e2, hq, st⟩
  · dsimp only [Pt.U, Pt.locs, Pt.cells, Pt.slots] at X' e1 e2 h1 h2 h3 st hcl
    subst h1; subst h2; subst h3
    exact Or.inr ⟨q, (T.setVm vm₁).calling g' mk (Value.ref b :: As).toArray, t, U', L, E, ce, hT, X', hL, e1, e2, hq, hce, hcv, vx_cls hW₁ hcl, st⟩
theorem vx_runS (S : CallFix p m c cc nL s args Ts own) (hM : vx_Met l y ws rm Pc Qc XC mc ms free) (cw : CallB R s args own index y bytes maxL ret ws rm mc ms n ∧ (Cond.static y).before args s = true) (hp : PreS s H Pc As)
    (hg : g.method = m) (hn : As.length = n) (hsize : g.locals.size = nL) (hstack : g.stack = As.reverse ++ rest) (hW : 2 * g.monitorRoom + (rest.map fun v => v.category).sum ≤ 8) (hdg : decode cc g.pc = .ok (.invokestatic index, 3)) (hf : cells + mc ≤ R.cells ∧ slots + ms ≤ R.slots) :
    vx_Run p l e R s m args below meth c H locs cells slots mc ms g rest (Qc As.toArray) XC free := by
  have hK : vx_Back l R p e below s args y 3 8 (PreOf R mc ms Pc) (PostOf Qc mc ms free) (vx_Post XC mc ms free) := vx_callBack cw.1 hM hp.1
  obtain ⟨⟨-, -, -, -, -, -, hcode, hini, hy, hlen, hl⟩, hstt⟩ := cw
  obtain ⟨hx, hb, hml, ho, -⟩ := S
  intro T hT X
  rcases vx_callS X hx (bytes := bytes) (maxL := maxL) (ret := ret) ho hl hstt hini hcode hy hK hg (hsize.trans hml.symm) (argsL := As) (rest := rest) (fun sig h => hn.trans (hlen sig h)) hstack hW (by rw [hb]; exact hdg)
    (fun vm₁ hW₁ => ⟨hf.1, hf.2, hp.2 (T.setVm vm₁) hT hW₁⟩) with ⟨v, vm₁, ⟨U', l2, c2, s2⟩, hW₁, X', ⟨g', mk, t, L, e1, e2, hq, h1, hL, h2, h3⟩, st⟩ | ⟨q, vm₁, ⟨U', l2, c2, s2⟩, hW₁, X', ⟨g', mk, t, L, E, ce, e1, e2, hq, hce, hcv, hcl, h1, hL, h2, h3⟩, st⟩
  · dsimp only [Pt.U, Pt.locs, Pt.cells, Pt.slots] at X' e1 e2 h1 h2 h3 st
    subst h1; subst h2; subst h3
    exact Or.inl ⟨v, (T.setVm vm₁).calling g' mk As.toArray, t, U', L, hT, X', hL, e1, e2, hq, st⟩
  · dsimp only [Pt.U, Pt.locs, Pt.cells, Pt.slots] at X' e1 e2 h1 h2 h3 st hcl
    subst h1; subst h2; subst h3
    exact Or.inr ⟨q, (T.setVm vm₁).calling g' mk As.toArray, t, U', L, E, ce, hT, X', hL, e1, e2, hq, hce, hcv, vx_cls hW₁ hcl, st⟩
end Runs
section Rows
variable {p : Program} {l : Launch} {e : Env} {R : Room} {s : State} {m : MethodId} {args : Array Value} {below : List Frame} {meth : Method} {c : Code} {H : Heap} {locs : List Loc} {cells slots : Nat} {Q : State → Prop}
variable {mc ms : Nat} {free : Addr → Prop} {A0 A1 : Nat → Prop} {H0 : Heap} {a : Array Value} {pc : Nat} {ls : Array Slot} {st0 rest : List Value}
theorem vx_keep {st₀ t T' : State} {L : List Loc} (h0 : st₀.heap = H) (e1 : T'.heap = t.heap) (hS : va_S A0 H0 H locs) (hA : ∀ q, q < H.size → A1 q → A0 q) (hf : ∀ q, free q → A0 q) (hL : ∀ q ∈ L, free q.base) (hF : va_F A1 st₀ t) :
    H.size ≤ T'.heap.size ∧ (∀ q : Nat, q < H.size → ¬ A1 q → T'.heap[q]? = H[q]?) ∧ va_S A0 H0 T'.heap (locs ++ L) := by
  obtain ⟨hz, hk⟩ := hF
  rw [h0] at hz hk
  exact ⟨by rw [e1]; exact hz, fun q h1 h2 => by rw [e1]; exact hk q h1 h2,
    ⟨Nat.le_trans hS.1 (by rw [e1]; exact hz), fun q h1 h2 => by rw [e1, hk q (Nat.lt_of_lt_of_le h1 hS.1) (fun z => h2 (hA q (Nat.lt_of_lt_of_le h1 hS.1) z))]; exact hS.2.1 q h1 h2, fun q hq => by
      rcases List.mem_append.mp hq with h | h
      · exact hS.2.2 q h
      · exact hf _ (hL q h)⟩⟩
theorem vx_calli {S SX : Type} {post : Int32 → S → Prop} {px : SX → Prop} {B : S → State → Prop} {BX : String → SX → State → Prop} {AX : Nat → Prop} (hr : vx_Run p l e R s m args below meth c H locs cells slots mc ms (F0 m pc ls st0) rest (va_Qi post B A1 a) (vx_X px BX AX) free) (hS : va_S A0 H0 H locs) (hA : ∀ q, q < H.size → A1 q → A0 q) (hf : ∀ q, free q → A0 q) (hAX : ∀ q, q < H.size → AX q → A0 q)
    (kx : ∀ (E : String) (ce : Cell) (q9 : Addr) (u : SX) (t : State) (H1 : Heap) (locs1 : List Loc), t.heap = H1 → s.vm.Alike t.vm → px u → BX E u t → H.size ≤ H1.size → (∀ q : Nat, q < H.size → ¬ AX q → H1[q]? = H[q]?) → va_S A0 H0 H1 locs1 → H1[q9]? = some ce → ce.vm = .none → s.vm.findClass E = some ce.cls → vx_W p l e R s m args below meth c H1 locs1 (cells + mc) (slots + ms) Q (F0 m pc ls rest) q9)
    (kk : ∀ (r : Int32) (u : S) (t : State) (H1 : Heap) (locs1 : List Loc), t.heap = H1 → s.vm.Alike t.vm → post r u → B u t → H.size ≤ H1.size → (∀ q : Nat, q < H.size → ¬ A1 q → H1[q]? = H[q]?) → va_S A0 H0 H1 locs1 → W p l e R s m args below meth c H1 locs1 (cells + mc) (slots + ms) Q (F0 m (pc + 3) ls (.int r :: rest))) : W p l e R s m args below meth c H locs cells slots Q (F0 m pc ls st0) := by
  intro T hT X
  rcases hr T hT X with ⟨v, st₀, t, T', L, h0, X', hL, e1, e2, ⟨⟨r, u, hv, hp, hb⟩, hF⟩, st⟩ | ⟨q, st₀, t, T', L, E, ce, h0, X', hL, e1, e2, ⟨u, hp, hb, hF⟩, hce, hcv, hcl, st⟩
  · cases hv
    obtain ⟨k1, k2, k3⟩ := vx_keep h0 e1 hS hA hf hL hF
    obtain ⟨t2, a1, b1⟩ := kk r u t T'.heap (locs ++ L) e1.symm (by rw [← e2]; exact X'.warmed.alike) hp hb k1 k2 k3 T' rfl X'
    exact ⟨t2, st t2 a1, b1⟩
  · obtain ⟨k1, k2, k3⟩ := vx_keep h0 e1 hS hAX hf hL hF
    obtain ⟨t2, a1, b1⟩ := kx E ce q u t T'.heap (locs ++ L) e1.symm (by rw [← e2]; exact X'.warmed.alike) hp hb k1 k2 k3 (by rw [e1]; exact hce) hcv hcl T' rfl X'
    exact ⟨t2, st.trans a1, b1⟩
theorem vx_calll {S SX : Type} {post : Int64 → S → Prop} {px : SX → Prop} {B : S → State → Prop} {BX : String → SX → State → Prop} {AX : Nat → Prop} (hr : vx_Run p l e R s m args below meth c H locs cells slots mc ms (F0 m pc ls st0) rest (va_Ql post B A1 a) (vx_X px BX AX) free) (hS : va_S A0 H0 H locs) (hA : ∀ q, q < H.size → A1 q → A0 q) (hf : ∀ q, free q → A0 q) (hAX : ∀ q, q < H.size → AX q → A0 q)
    (kx : ∀ (E : String) (ce : Cell) (q9 : Addr) (u : SX) (t : State) (H1 : Heap) (locs1 : List Loc), t.heap = H1 → s.vm.Alike t.vm → px u → BX E u t → H.size ≤ H1.size → (∀ q : Nat, q < H.size → ¬ AX q → H1[q]? = H[q]?) → va_S A0 H0 H1 locs1 → H1[q9]? = some ce → ce.vm = .none → s.vm.findClass E = some ce.cls → vx_W p l e R s m args below meth c H1 locs1 (cells + mc) (slots + ms) Q (F0 m pc ls rest) q9)
    (kk : ∀ (r : Int64) (u : S) (t : State) (H1 : Heap) (locs1 : List Loc), t.heap = H1 → s.vm.Alike t.vm → post r u → B u t → H.size ≤ H1.size → (∀ q : Nat, q < H.size → ¬ A1 q → H1[q]? = H[q]?) → va_S A0 H0 H1 locs1 → W p l e R s m args below meth c H1 locs1 (cells + mc) (slots + ms) Q (F0 m (pc + 3) ls (.long r :: rest))) : W p l e R s m args below meth c H locs cells slots Q (F0 m pc ls st0) := by
  intro T hT X
  rcases hr T hT X with ⟨v, st₀, t, T', L, h0, X', hL, e1, e2, ⟨⟨r, u, hv, hp, hb⟩, hF⟩, st⟩ | ⟨q, st₀, t, T', L, E, ce, h0, X', hL, e1, e2, ⟨u, hp, hb, hF⟩, hce, hcv, hcl, st⟩
  · cases hv
    obtain ⟨k1, k2, k3⟩ := vx_keep h0 e1 hS hA hf hL hF
    obtain ⟨t2, a1, b1⟩ := kk r u t T'.heap (locs ++ L) e1.symm (by rw [← e2]; exact X'.warmed.alike) hp hb k1 k2 k3 T' rfl X'
    exact ⟨t2, st t2 a1, b1⟩
  · obtain ⟨k1, k2, k3⟩ := vx_keep h0 e1 hS hAX hf hL hF
    obtain ⟨t2, a1, b1⟩ := kx E ce q u t T'.heap (locs ++ L) e1.symm (by rw [← e2]; exact X'.warmed.alike) hp hb k1 k2 k3 (by rw [e1]; exact hce) hcv hcl T' rfl X'
    exact ⟨t2, st.trans a1, b1⟩
theorem vx_callf {S SX : Type} {post : UInt32 → S → Prop} {px : SX → Prop} {B : S → State → Prop} {BX : String → SX → State → Prop} {AX : Nat → Prop} (hr : vx_Run p l e R s m args below meth c H locs cells slots mc ms (F0 m pc ls st0) rest (va_Qf post B A1 a) (vx_X px BX AX) free) (hS : va_S A0 H0 H locs) (hA : ∀ q, q < H.size → A1 q → A0 q) (hf : ∀ q, free q → A0 q) (hAX : ∀ q, q < H.size → AX q → A0 q)
    (kx : ∀ (E : String) (ce : Cell) (q9 : Addr) (u : SX) (t : State) (H1 : Heap) (locs1 : List Loc), t.heap = H1 → s.vm.Alike t.vm → px u → BX E u t → H.size ≤ H1.size → (∀ q : Nat, q < H.size → ¬ AX q → H1[q]? = H[q]?) → va_S A0 H0 H1 locs1 → H1[q9]? = some ce → ce.vm = .none → s.vm.findClass E = some ce.cls → vx_W p l e R s m args below meth c H1 locs1 (cells + mc) (slots + ms) Q (F0 m pc ls rest) q9)
    (kk : ∀ (r : UInt32) (u : S) (t : State) (H1 : Heap) (locs1 : List Loc), t.heap = H1 → s.vm.Alike t.vm → post r u → B u t → H.size ≤ H1.size → (∀ q : Nat, q < H.size → ¬ A1 q → H1[q]? = H[q]?) → va_S A0 H0 H1 locs1 → W p l e R s m args below meth c H1 locs1 (cells + mc) (slots + ms) Q (F0 m (pc + 3) ls (.float r :: rest))) : W p l e R s m args below meth c H locs cells slots Q (F0 m pc ls st0) := by
  intro T hT X
  rcases hr T hT X with ⟨v, st₀, t, T', L, h0, X', hL, e1, e2, ⟨⟨r, u, hv, hp, hb⟩, hF⟩, st⟩ | ⟨q, st₀, t, T', L, E, ce, h0, X', hL, e1, e2, ⟨u, hp, hb, hF⟩, hce, hcv, hcl, st⟩
  · cases hv
    obtain ⟨k1, k2, k3⟩ := vx_keep h0 e1 hS hA hf hL hF
    obtain ⟨t2, a1, b1⟩ := kk r u t T'.heap (locs ++ L) e1.symm (by rw [← e2]; exact X'.warmed.alike) hp hb k1 k2 k3 T' rfl X'
    exact ⟨t2, st t2 a1, b1⟩
  · obtain ⟨k1, k2, k3⟩ := vx_keep h0 e1 hS hAX hf hL hF
    obtain ⟨t2, a1, b1⟩ := kx E ce q u t T'.heap (locs ++ L) e1.symm (by rw [← e2]; exact X'.warmed.alike) hp hb k1 k2 k3 (by rw [e1]; exact hce) hcv hcl T' rfl X'
    exact ⟨t2, st.trans a1, b1⟩
theorem vx_calld {S SX : Type} {post : UInt64 → S → Prop} {px : SX → Prop} {B : S → State → Prop} {BX : String → SX → State → Prop} {AX : Nat → Prop} (hr : vx_Run p l e R s m args below meth c H locs cells slots mc ms (F0 m pc ls st0) rest (va_Qd post B A1 a) (vx_X px BX AX) free) (hS : va_S A0 H0 H locs) (hA : ∀ q, q < H.size → A1 q → A0 q) (hf : ∀ q, free q → A0 q) (hAX : ∀ q, q < H.size → AX q → A0 q)
    (kx : ∀ (E : String) (ce : Cell) (q9 : Addr) (u : SX) (t : State) (H1 : Heap) (locs1 : List Loc), t.heap = H1 → s.vm.Alike t.vm → px u → BX E u t → H.size ≤ H1.size → (∀ q : Nat, q < H.size → ¬ AX q → H1[q]? = H[q]?) → va_S A0 H0 H1 locs1 → H1[q9]? = some ce → ce.vm = .none → s.vm.findClass E = some ce.cls → vx_W p l e R s m args below meth c H1 locs1 (cells + mc) (slots + ms) Q (F0 m pc ls rest) q9)
    (kk : ∀ (r : UInt64) (u : S) (t : State) (H1 : Heap) (locs1 : List Loc), t.heap = H1 → s.vm.Alike t.vm → post r u → B u t → H.size ≤ H1.size → (∀ q : Nat, q < H.size → ¬ A1 q → H1[q]? = H[q]?) → va_S A0 H0 H1 locs1 → W p l e R s m args below meth c H1 locs1 (cells + mc) (slots + ms) Q (F0 m (pc + 3) ls (.double r :: rest))) : W p l e R s m args below meth c H locs cells slots Q (F0 m pc ls st0) := by
  intro T hT X
  rcases hr T hT X with ⟨v, st₀, t, T', L, h0, X', hL, e1, e2, ⟨⟨r, u, hv, hp, hb⟩, hF⟩, st⟩ | ⟨q, st₀, t, T', L, E, ce, h0, X', hL, e1, e2, ⟨u, hp, hb, hF⟩, hce, hcv, hcl, st⟩
  · cases hv
    obtain ⟨k1, k2, k3⟩ := vx_keep h0 e1 hS hA hf hL hF
    obtain ⟨t2, a1, b1⟩ := kk r u t T'.heap (locs ++ L) e1.symm (by rw [← e2]; exact X'.warmed.alike) hp hb k1 k2 k3 T' rfl X'
    exact ⟨t2, st t2 a1, b1⟩
  · obtain ⟨k1, k2, k3⟩ := vx_keep h0 e1 hS hAX hf hL hF
    obtain ⟨t2, a1, b1⟩ := kx E ce q u t T'.heap (locs ++ L) e1.symm (by rw [← e2]; exact X'.warmed.alike) hp hb k1 k2 k3 (by rw [e1]; exact hce) hcv hcl T' rfl X'
    exact ⟨t2, st.trans a1, b1⟩
theorem vx_callv {S SX : Type} {post : S → Prop} {px : SX → Prop} {B : S → State → Prop} {BX : String → SX → State → Prop} {AX : Nat → Prop} (hr : vx_Run p l e R s m args below meth c H locs cells slots mc ms (F0 m pc ls st0) rest (va_Qv post B A1 a) (vx_X px BX AX) free) (hS : va_S A0 H0 H locs) (hA : ∀ q, q < H.size → A1 q → A0 q) (hf : ∀ q, free q → A0 q) (hAX : ∀ q, q < H.size → AX q → A0 q)
    (kx : ∀ (E : String) (ce : Cell) (q9 : Addr) (u : SX) (t : State) (H1 : Heap) (locs1 : List Loc), t.heap = H1 → s.vm.Alike t.vm → px u → BX E u t → H.size ≤ H1.size → (∀ q : Nat, q < H.size → ¬ AX q → H1[q]? = H[q]?) → va_S A0 H0 H1 locs1 → H1[q9]? = some ce → ce.vm = .none → s.vm.findClass E = some ce.cls → vx_W p l e R s m args below meth c H1 locs1 (cells + mc) (slots + ms) Q (F0 m pc ls rest) q9)
    (kk : ∀ (u : S) (t : State) (H1 : Heap) (locs1 : List Loc), t.heap = H1 → s.vm.Alike t.vm → post u → B u t → H.size ≤ H1.size → (∀ q : Nat, q < H.size → ¬ A1 q → H1[q]? = H[q]?) → va_S A0 H0 H1 locs1 → W p l e R s m args below meth c H1 locs1 (cells + mc) (slots + ms) Q (F0 m (pc + 3) ls (rest))) : W p l e R s m args below meth c H locs cells slots Q (F0 m pc ls st0) := by
  intro T hT X
  rcases hr T hT X with ⟨v, st₀, t, T', L, h0, X', hL, e1, e2, ⟨⟨u, hv, hp, hb⟩, hF⟩, st⟩ | ⟨q, st₀, t, T', L, E, ce, h0, X', hL, e1, e2, ⟨u, hp, hb, hF⟩, hce, hcv, hcl, st⟩
  · cases hv
    obtain ⟨k1, k2, k3⟩ := vx_keep h0 e1 hS hA hf hL hF
    obtain ⟨t2, a1, b1⟩ := kk u t T'.heap (locs ++ L) e1.symm (by rw [← e2]; exact X'.warmed.alike) hp hb k1 k2 k3 T' rfl X'
    exact ⟨t2, st t2 a1, b1⟩
  · obtain ⟨k1, k2, k3⟩ := vx_keep h0 e1 hS hAX hf hL hF
    obtain ⟨t2, a1, b1⟩ := kx E ce q u t T'.heap (locs ++ L) e1.symm (by rw [← e2]; exact X'.warmed.alike) hp hb k1 k2 k3 (by rw [e1]; exact hce) hcv hcl T' rfl X'
    exact ⟨t2, st.trans a1, b1⟩
/-- caught by the row x of this method's table; the rows ahead don't take it -/
theorem vx_catch {own name : String} {E : String} {ce : Cell} {q : Addr} (hown : s.vm.findClass own = some m.cls) (pre : List ExceptionTableEntry) (x : ExceptionTableEntry) (suf : List ExceptionTableEntry) (hsplit : c.exceptionTable.toList = pre ++ x :: suf)
    (hpass : ∀ z ∈ pre, covers z pc = false ∨ (z.catchType ≠ 0 ∧ ∃ nm : String, (Cond.classLink own z.catchType nm).before args s = true ∧ va_Nc E nm s)) (hx : covers x pc = true) (h0 : x.catchType ≠ 0)
    (hlink : (Cond.classLink own x.catchType name).before args s = true) (hcast : (Cond.castable E name).before args s = true) (hcell : H[q]? = some ce) (hv : ce.vm = .none) (hcl : s.vm.findClass E = some ce.cls)
    (kk : W p l e R s m args below meth c H locs cells slots Q (F0 m x.handlerPc ls [.ref q])) : vx_W p l e R s m args below meth c H locs cells slots Q (F0 m pc ls rest) q := by
  intro T hT X
  have hpl : e.platform.magicAccessors = ({} : Platform).magicAccessors := by rw [X.admits.platform]
  obtain ⟨c3, c4, hc3, hc4, hasg⟩ := Cond.castable_spec hcast
  cases Option.some.inj (hc3.symm.trans hcl)
  obtain ⟨c5, hc5, hcl5⟩ := Cond.classLink_spec hown hlink e.platform hpl
  cases Option.some.inj (hc4.symm.trans hc5)
  obtain ⟨vm', X', st⟩ := X.thenCaughtThrough q (g := F0 m pc ls rest) rfl (Steps.refl _) (by rw [hT]; exact hcell) (by rw [hv]; rfl) (by obtain ⟨k9, h9, -⟩ := Vm.findClass_spec hcl; exact ⟨k9, h9⟩) pre x suf hsplit
    (fun z hz => by
      rcases hpass z hz with h | ⟨hz0, nm, hl1, hn1⟩
      · exact Or.inl h
      · obtain ⟨c6, hc6, hcl6⟩ := Cond.classLink_spec hown hl1 e.platform hpl
        obtain ⟨a8, b8, h1, h2, h3⟩ := hn1
        cases Option.some.inj (h1.symm.trans hcl)
        cases Option.some.inj (h2.symm.trans hc6)
        exact Or.inr ⟨hz0, _, hcl6, h3⟩) hx (Or.inr ⟨h0, c4, hcl5, hasg⟩)
  obtain ⟨t, a1, b1⟩ := kk (T.setVm vm') hT X'
  exact ⟨t, st.trans a1, b1⟩
end Rows
section Ends
variable {p : Program} {l : Launch} {e : Env} {R : Room} {s : State} {m : MethodId} {args : Array Value} {below : List Frame} {meth : Method} {c : Code} {H : Heap} {locs : List Loc} {cells slots : Nat} {Q : State → Prop}
variable {mc ms : Nat} {free : Addr → Prop} {A0 A1 : Nat → Prop} {H0 : Heap} {a : Array Value} {ls : Array Slot} {st0 rest : List Value}
variable {Qc : Array Value → State → Outcome → State → Prop} {XC : String → State → State → Prop}
/-- what a body that may throw owes at its end -/
def vx_MQ (below : List Frame) (Qc : Array Value → State → Outcome → State → Prop) (XC : String → State → State → Prop) (a : Array Value) (s : State) (mc ms : Nat) (free : Addr → Prop) : State → Prop := fun t =>
  ∃ o, t.status = .running ∧ Ended t below o ∧ vx_Q Qc XC mc ms free a s o t
theorem vx_ret {g : JFrame} {mc ms : Nat} (k : W p l e R s m args below meth c H locs cells slots (MQ below Qc args s mc ms free) g) : W p l e R s m args below meth c H locs cells slots (vx_MQ below Qc XC args s mc ms free) g := by
  intro T hT X
  obtain ⟨t, a1, o, b1, b2, b3, b4⟩ := k T hT X
  exact ⟨t, a1, o, b1, b2, Or.inl ⟨b3, b4⟩⟩
/-- not caught here: it goes on to the caller -/
theorem vx_widen {g : JFrame} {q : Addr} {k n : Nat} (h1 : cells ≤ k) (h2 : slots ≤ n) (kk : vx_W p l e R s m args below meth c H locs k n Q g q) : vx_W p l e R s m args below meth c H locs cells slots Q g q := fun T hT X => kk T hT (stand_widen X h1 h2)
theorem vx_out {pc : Nat} {E : String} {ce : Cell} {q : Addr} {mc ms : Nat} (hout : ∀ x ∈ c.exceptionTable.toList, covers x pc = false) (hlocks : meth.locks = false) (hcell : H[q]? = some ce) (hv : ce.vm = .none) (hcl : s.vm.findClass E = some ce.cls)
    (hx : ∀ t : State, t.heap = H → s.vm.Alike t.vm → XC E s t) (hf : ∀ z ∈ locs, free z.base) (hc : cells ≤ mc) (hs : slots ≤ ms) :
    vx_W p l e R s m args below meth c H locs cells slots (vx_MQ below Qc XC args s mc ms free) (F0 m pc ls rest) q := by
  intro T hT X
  obtain ⟨st1, hrun, hend, hW, hsm⟩ := X.leaveThrown q (g := F0 m pc ls rest) rfl rfl rfl hout hlocks
  have hcell9 : (T.setFrames (.throwing q :: below)).heap[q]? = some ce := by
    show T.heap[q]? = some ce
    rw [hT]; exact hcell
  exact ⟨_, st1, .threw q, hrun, hend, Or.inr ⟨q, rfl, E, ce, locs, hx _ hT hW.alike, hcell9, hv, hcl, hW, hsm.mono hc hs, hf⟩⟩
theorem vx_frame {U : State} {k n : Nat} (h : s.sameButNew ({ U with vm := s.vm } : State) locs k n) : s.heap.size ≤ U.heap.size ∧ ∀ q : Nat, q < s.heap.size → (∀ z ∈ locs, z.base ≠ q) → U.heap[q]? = s.heap[q]? := by
  obtain ⟨-, h2, -, -, -, h6⟩ := h
  refine ⟨h2, fun q hq hz => ?_⟩
  obtain ⟨c9, e1, e2, e3, e4⟩ := h6 q _ (Array.getElem?_eq_getElem hq)
  have hs : c9.slots = (s.heap[q]).slots := Array.ext_getElem? fun i => e4 i fun hm => hz _ hm rfl
  have h9 : c9 = s.heap[q] := by
    rw [hs] at e2
    exact e2
  have e5 : U.heap[q]? = some c9 := e1
  rw [e5, h9, Array.getElem?_eq_getElem hq]
/-- the words of a throw but the four that speak of the heap -/
def vx_no (w : Cond) : Bool := decide (w ≠ .isRef (.static Bundle.tN "UNASSIGNED_STACK" Bundle.steD)) && decide (w ≠ .isRef (.static Bundle.tN "SUPPRESSED_SENTINEL" Bundle.listD)) && decide (w ≠ .laysStatic Bundle.tN "UNASSIGNED_STACK" Bundle.steD) && decide (w ≠ .laysStatic Bundle.tN "SUPPRESSED_SENTINEL" Bundle.listD)
def vx_at0 (own : String) (ic : Nat) (X : String) (names : List String) : List Cond := (Bundle.ownAtoms0 own ic X names).filter vx_no
def vx_atS (own : String) (ic : Nat) (X : String) (names : List String) : List Cond := (Bundle.ownAtoms own ic X names).filter vx_no
/-- a word that the tables alone decide, or a good one -/
def vx_ot (w : Cond) : Bool := w.onTables || goodWord w
theorem vx_ot_at {args a' : Array Value} {s U : State} {w : Cond} (hW : s.WarmedH U.vm) (hvm : s.vm = U.vm) (hg : vx_ot w = true) (h : w.before args s = true) : w.before a' U = true := by
  simp only [vx_ot, Bool.or_eq_true] at hg
  rcases hg with hg | hg
  · exact va_tabs hg hvm h
  · exact word_at hW (good_of_word hg) h
/-- a list's words: the good ones out of the method's own list, the others by premises of their own -/
theorem vx_hat {args : Array Value} {s : State} {L B : List Cond} (h1 : ∀ w ∈ L.filter goodWord, w.before args s = true) (h2 : ∀ w ∈ L.filter (fun w => !goodWord w), w ∈ B) (h3 : ∀ w ∈ B, w.before args s = true) : ∀ w ∈ L, w.before args s = true := by
  intro w hw
  by_cases g : goodWord w = true
  · exact h1 w (List.mem_filter.mpr ⟨hw, g⟩)
  · refine h3 w (h2 w (List.mem_filter.mpr ⟨hw, ?_⟩))
    show (!goodWord w) = true
    cases hgw : goodWord w
    · rfl
    · exact absurd hgw g
theorem vx_c {args : Array Value} {s : State} {w : Cond} {B : List Cond} (h : w.before args s = true) (t : ∀ w ∈ B, w.before args s = true) : ∀ w' ∈ w :: B, w'.before args s = true := fun w' h' => (List.mem_cons.mp h').elim (fun e => by rw [e]; exact h) (t w')
theorem vx_n {args : Array Value} {s : State} : ∀ w ∈ ([] : List Cond), w.before args s = true := fun _ h => nomatch h
theorem vx_own {args : Array Value} {s : State} {L : List Cond} (h1 : ∀ w ∈ L.filter vx_no, w.before args s = true)
    (hU : (Cond.isRef (.static Bundle.tN "UNASSIGNED_STACK" Bundle.steD)).before args s = true) (hN : (Cond.isRef (.static Bundle.tN "SUPPRESSED_SENTINEL" Bundle.listD)).before args s = true)
    (lU : (Cond.laysStatic Bundle.tN "UNASSIGNED_STACK" Bundle.steD).before args s = true) (lN : (Cond.laysStatic Bundle.tN "SUPPRESSED_SENTINEL" Bundle.listD).before args s = true) : ∀ w ∈ L, w.before args s = true := by
  intro w hw
  by_cases e1 : w = .isRef (.static Bundle.tN "UNASSIGNED_STACK" Bundle.steD)
  · rw [e1]; exact hU
  · by_cases e2 : w = .isRef (.static Bundle.tN "SUPPRESSED_SENTINEL" Bundle.listD)
    · rw [e2]; exact hN
    · by_cases e3 : w = .laysStatic Bundle.tN "UNASSIGNED_STACK" Bundle.steD
      · rw [e3]; exact lU
      · by_cases e4 : w = .laysStatic Bundle.tN "SUPPRESSED_SENTINEL" Bundle.listD
        · rw [e4]; exact lN
        · exact h1 w (List.mem_filter.mpr ⟨hw, by unfold vx_no; rw [decide_eq_true e1, decide_eq_true e2, decide_eq_true e3, decide_eq_true e4]; rfl⟩)
/-- where a static field lies, its class's statics cell in H -/
def vx_L (C n d : String) (A : Nat → Prop) (U : State) (H : Heap) : Prop := ∃ (c : ClassId) (k : Class) (i : Nat) (f : Field) (a : Nat) (cell : Cell), U.vm.findClass C = some c ∧ U.fieldFound? C n d = some (c, k, i, f) ∧ f.isStatic = true ∧ k.statics = some a ∧ H[a]? = some cell ∧ cell.vm.isStatics = true ∧ cell.cls = c ∧ f.slot < cell.slots.size ∧ k.staticTypes[f.slot]? = some f.type ∧ ¬ A a
theorem vx_L.moved {C n d : String} {A : Nat → Prop} {u U : State} {H : Heap} (hvm : u.vm.Alike U.vm) (h : vx_L C n d A u H) : vx_L C n d A U H := by
  obtain ⟨c, k, i, f, a, cell, h1, h2, h3, h4, h5, h6, h7, h8, h9, h10⟩ := h
  obtain ⟨k', hi', he⟩ := State.fieldFound?_setVm hvm h2
  exact ⟨c, k', i, f, a, cell, by rw [hvm.findClass]; exact h1, hi', h3, by rw [he]; exact h4, h5, h6, h7, h8, by rw [he]; exact h9, h10⟩
theorem vx_L.kept {C n d : String} {A : Nat → Prop} {U : State} {H H1 : Heap} (h : vx_L C n d A U H) (hq : ∀ a : Nat, a < H.size → ¬ A a → H1[a]? = H[a]?) : vx_L C n d A U H1 := by
  obtain ⟨c, k, i, f, a, cell, h1, h2, h3, h4, h5, h6, h7, h8, h9, h10⟩ := h
  exact ⟨c, k, i, f, a, cell, h1, h2, h3, h4, by rw [hq a (Array.getElem?_eq_some_iff.mp h5).1 h10]; exact h5, h6, h7, h8, h9, h10⟩
theorem vx_L.narrow {C n d : String} {A B : Nat → Prop} {U : State} {H : Heap} (h : vx_L C n d A U H) (hAB : ∀ q, B q → A q) : vx_L C n d B U H := by
  obtain ⟨c, k, i, f, a, cell, h1, h2, h3, h4, h5, h6, h7, h8, h9, h10⟩ := h
  exact ⟨c, k, i, f, a, cell, h1, h2, h3, h4, h5, h6, h7, h8, h9, fun z => h10 (hAB _ z)⟩
theorem vx_L.word {C n d : String} {A : Nat → Prop} {s : State} {args : Array Value} (h : vx_L C n d A s s.heap) : (Cond.laysStatic C n d).before args s = true := by
  obtain ⟨c, k, i, f, a, cell, h1, h2, h3, h4, h5, h6, h7, h8, h9, -⟩ := h
  show (Cond.laysStatic C n d).holds args s none s [] = true
  exact Cond.laysStatic_of h1 h2 h3 h4 h5 h6 h7 h8 h9
/-- .. and what it holds: null or some reference -/
def vx_Zq (C n d : String) (A : Nat → Prop) (U : State) (H : Heap) : Prop := va_Zq C n d A U H ∧ vx_L C n d A U H
theorem vx_Zq.moved {C n d : String} {A : Nat → Prop} {u U : State} {H : Heap} (hvm : u.vm.Alike U.vm) (h : vx_Zq C n d A u H) : vx_Zq C n d A U H := ⟨va_Zq.moved hvm h.1, vx_L.moved hvm h.2⟩
theorem vx_Zq.kept {C n d : String} {A : Nat → Prop} {U : State} {H H1 : Heap} (h : vx_Zq C n d A U H) (hq : ∀ a : Nat, a < H.size → ¬ A a → H1[a]? = H[a]?) : vx_Zq C n d A U H1 := ⟨va_Zq.kept h.1 hq, vx_L.kept h.2 hq⟩
theorem vx_Zq.narrow {C n d : String} {A B : Nat → Prop} {U : State} {H : Heap} (h : vx_Zq C n d A U H) (hAB : ∀ q, B q → A q) : vx_Zq C n d B U H := ⟨va_Zq.narrow h.1 hAB, vx_L.narrow h.2 hAB⟩
theorem vx_Zqof {args : Array Value} {s : State} {C n d : String} {A : Nat → Prop} (hl : (Cond.laysStatic C n d).before args s = true) (hini : (Cond.initialized C).before args s = true) (h : (Cond.isRef (.static C n d)).before args s = true) (hA : ∀ a : Nat, a < s.heap.size → ¬ A a) : vx_Zq C n d A s s.heap := by
  refine ⟨va_Zqof hl hini h hA, ?_⟩
  obtain ⟨c, k, i, f, a, cell, h1, h2, h3, h4, h5, h6, h7, h8, h9⟩ := Cond.laysStatic_spec hl
  exact ⟨c, k, i, f, a, cell, h1, h2, h3, h4, h5, h6, h7, h8, h9, hA a (Array.getElem?_eq_some_iff.mp h5).1⟩
theorem vx_isRef {C n d : String} {v : Value} {A : Nat → Prop} {s : State} {args : Array Value} (h : va_Z C n d v A s s.heap) (hv : v.isRef = true) : (Cond.isRef (.static C n d)).before args s = true := by
  obtain ⟨cf, kf, fi, f, a, cell, h1, h2, h3, h4, h5, h6, h7, -⟩ := h
  have he : (Term.static C n d).eval args s none [] s = some v := by
    simp [Term.eval, State.fieldNamed?, h1, h2, h4, h5, h6, h7]
  simp only [Cond.before, Cond.holds, Cond.value, he]
  cases v <;> simp_all [Value.isRef]
theorem vx_isRefq {C n d : String} {A : Nat → Prop} {s : State} {args : Array Value} (h : va_Zq C n d A s s.heap) : (Cond.isRef (.static C n d)).before args s = true := by
  rcases h with h | ⟨t, h⟩
  · exact vx_isRef h rfl
  · exact vx_isRef h rfl
/-- the same frame, seen from here: as if the method were called anew in this heap -/
theorem vx_rebase {T : State} (X : Stand p l e R s m args below meth c T locs cells slots) {R' : Room} (hf : R'.frames ≤ R.frames) (hl : R'.locals ≤ R.locals) (hc : cells + R'.cells ≤ R.cells) (hs : slots + R'.slots ≤ R.slots) :
    Stand p l e R' ((T.setVm s.vm).setFrames (.invoking m args :: below)) m args below meth c T [] 0 0 := by
  have htop : (T.setVm s.vm).topJava?.isSome := X.here.top
  have hF : ((T.setVm s.vm).setFrames (.invoking m args :: below)).frames = .invoking m args :: below := State.frames_setFrames _ (State.cur_lt_of_top htop)
  obtain ⟨g₀, hg0⟩ := Option.isSome_iff_exists.mp htop
  obtain ⟨r, hr⟩ := State.topJava?_eq_some.mp hg0
  have hl9 : e.platform.stackLimits (T.setVm s.vm).me = e.platform.stackLimits s.me := X.limits
  have hb9 : (T.setVm s.vm).me.stackBytes = s.me.stackBytes := X.bytes
  refine ⟨X.admits, X.cas, X.clock, hF, ?_, X.hears, X.method, X.code, X.here, X.tail, X.warmed, ?_, ?_, ?_⟩
  · have h := X.room
    have hU : ((T.setVm s.vm).setFrames (.invoking m args :: below)).localsInUse = s.localsInUse := by
      rw [State.localsInUse_invoking hF (meth := meth) (c := c) X.method X.code, State.localsInUse_invoking X.frames X.method X.code]
    simp only [State.hasRoom, Bool.and_eq_true, decide_eq_true_eq] at h ⊢
    obtain ⟨⟨⟨⟨h1, h2, h3, h4, h5, h6⟩, h7⟩, h8⟩, h9⟩ := h
    rw [X.frames, List.length_cons] at h2 h3
    have q1 := X.heapSize
    have q2 := X.used
    simp only [hF, hU, List.length_cons, State.stackLimits_setFrames, State.stackBytes_setFrames, hl9, hb9]
    refine ⟨⟨⟨⟨by omega, by omega, by omega, by omega, by omega, h6⟩, ?_⟩, ?_⟩, X.book⟩
    · show T.heap.size + R'.cells ≤ e.platform.maxCells
      omega
    · show T.slotsUsed + R'.slots ≤ e.platform.maxSlots
      omega
  · rw [State.stackLimits_setFrames]; rfl
  · rw [State.stackBytes_setFrames]; rfl
  · refine ⟨?_, Nat.le_refl _, Nat.le_refl _, ?_, ?_, fun a c9 h9 => ⟨c9, h9, rfl, rfl, fun _ _ => rfl⟩⟩
    · obtain ⟨t, ht, -⟩ := State.frames_cons hr
      show T.setVm s.vm = { ((T.setVm s.vm).setFrames (.invoking m args :: below)).setFrames (T.setVm s.vm).frames with heap := T.heap, slotsUsed := T.slotsUsed }
      rw [State.setFrames_setFrames, State.setFrames_self ht]
      rfl
    · show T.slotsUsed = T.slotsUsed + ((T.heap.toList.drop T.heap.size).map (·.slots.size)).sum
      rw [List.drop_eq_nil_of_le (Nat.le_of_eq Array.length_toList)]
      rfl
    · show ((T.heap.toList.drop T.heap.size).map (·.slots.size)).sum ≤ 0
      rw [List.drop_eq_nil_of_le (Nat.le_of_eq Array.length_toList)]
      exact Nat.le_refl _
/-- 'throw new E()': new; dup; invokespecial; athrow -/
theorem vx_throw0 {cc : ByteArray} {pc : Nat} (hexec : p.tables.exec = Jvm.exec) (hb : c.code = cc) (hl : l.stackTraces = false) {own cls : String} {names : List String} {ik ic mc ms : Nat} {A : Nat → Prop}
    (hown : s.vm.findClass own = some m.cls) (hcls : Bundle.fit cls = true) (hnames : ∀ n ∈ names, Bundle.fit n = true)
    (hk : (Cond.classLink own ik cls).before args s = true) (hini : (Cond.initialized cls).before args s = true) (hat : ∀ w ∈ vx_at0 own ic cls names, w.before args s = true)
    (hgood : ∀ w ∈ Cond.classLink own ik cls :: Cond.initialized cls :: vx_at0 own ic cls names, vx_ot w = true)
    (hU : vx_Zq Bundle.tN "UNASSIGNED_STACK" Bundle.steD A s s.heap) (hN : vx_Zq Bundle.tN "SUPPRESSED_SENTINEL" Bundle.listD A s s.heap) (hS : va_S A s.heap H locs) (hsize : ls.size = c.maxLocals)
    (d0 : decode cc pc = .ok (.new ik, 3)) (d3 : decode cc (pc + 3) = .ok (.dup, 1)) (d4 : decode cc (pc + 4) = .ok (.invokespecial ic, 3)) (d7 : decode cc (pc + 7) = .ok (.athrow, 1))
    (hout : ∀ x ∈ c.exceptionTable.toList, covers x (pc + 7) = false)
    (hRframes : names.length + 3 < R.frames) (hRlocals : (rest.map fun v => v.category).sum + (13 * (names.length + 1) + 42) ≤ R.locals) (hRcells : cells + 1 ≤ R.cells) (hRslots : slots + 6 ≤ R.slots) (hlocks : meth.locks = false)
    (hx : ∀ t : State, s.vm.Alike t.vm → H.size ≤ t.heap.size → (∀ q : Nat, q < H.size → t.heap[q]? = H[q]?) → XC cls s t)
    (hf : ∀ z ∈ locs, free z.base) (hc : cells + 1 ≤ mc) (hs : slots + 6 ≤ ms) :
    W p l e R s m args below meth c H locs cells slots (vx_MQ below Qc XC args s mc ms free) (F0 m pc ls rest) := by
  intro T hT X
  have htr : e.platform.stackTraces = false := (show e.platform.stackTraces = l.stackTraces by rw [X.admits.platform]).trans hl
  have Y := vx_rebase X (R' := { frames := R.frames, locals := R.locals, cells := 1, slots := 6 }) (Nat.le_refl _) (Nat.le_refl _) hRcells hRslots
  obtain ⟨s', hA⟩ : ∃ z, z = (T.setVm s.vm).setFrames (.invoking m args :: below) := ⟨_, rfl⟩
  rw [← hA] at Y
  have hvm : s'.vm = s.vm := by rw [hA]; rfl
  have hhp : s'.heap = H := by rw [hA]; exact hT
  have hW0 : s.WarmedH s'.vm := by rw [hvm]; exact State.WarmedH.refl s
  have hat' : ∀ w ∈ vx_at0 own ic cls names, w.before args s' = true := fun w hw => vx_ot_at hW0 hvm.symm (hgood w (List.mem_cons_of_mem _ (List.mem_cons_of_mem _ hw))) (hat w hw)
  have hk' : (Cond.classLink own ik cls).before args s' = true := vx_ot_at hW0 hvm.symm (hgood _ List.mem_cons_self) hk
  have hini' : (Cond.initialized cls).before args s' = true := vx_ot_at hW0 hvm.symm (hgood _ (List.mem_cons_of_mem _ List.mem_cons_self)) hini
  have hU' : vx_Zq Bundle.tN "UNASSIGNED_STACK" Bundle.steD A s' s'.heap := by rw [hhp]; exact vx_Zq.moved hW0.alike (hU.kept hS.2.1)
  have hN' : vx_Zq Bundle.tN "SUPPRESSED_SENTINEL" Bundle.listD A s' s'.heap := by rw [hhp]; exact vx_Zq.moved hW0.alike (hN.kept hS.2.1)
  have h : ∀ w ∈ Bundle.ownAtoms0 own ic cls names, w.before args s' = true := vx_own hat' (vx_isRefq hU'.1) (vx_isRefq hN'.1) hU'.2.word hN'.2.word
  have hown' : s'.vm.findClass own = some m.cls := by rw [hvm]; exact hown
  have hins : (Cond.instantiable cls 6).before args s' = true := h _ (by simp [Bundle.ownAtoms0])
  obtain ⟨vm₁, cX, kX, hfX, hkX, -, -, X₁, st1⟩ := Y.newCold hexec (own := own) (C := cls) (index := ik) (n := 6) hown' hk' hins hini'
    (g := F0 m pc ls rest) rfl (by rw [hb]; exact d0) (Nat.le_refl _) (Nat.le_refl _)
  generalize hT1 : (T.setVm vm₁).pushCell { cls := cX, slots := kX.instanceTypes.map defaultValue, vm := .none } = T1 at X₁ st1
  have hcat : (Value.ref T.heap.size).category = 1 := rfl
  have hcellA : T1.heap[T.heap.size]? = some (freshCell cX kX) := by rw [← hT1]; exact State.heap_pushCell_size _ _
  have d3' : decode c.code (pc + 3) = .ok (.dup, 1) := by rw [hb]; exact d3
  obtain ⟨U, hsteps, hrun, hend, hW, hsame, ce, hce, hO⟩ := X₁.ctorThrow0 hexec htr (own := own) (cls := cls) (names := names) (ic := ic) hown' hcls hnames h (fun x hx => nomatch hx) hfX hkX hcellA (by rw [hhp, hT]; exact Nat.le_refl _)
    (g := { method := m, pc := pc + 4, locals := ls, stack := .ref T.heap.size :: .ref T.heap.size :: rest, locked := none }) rfl hsize rfl rfl (rest := rest) rfl
    (by rw [hb]; exact d4) (by rw [hb]; exact d7) hout hRframes (by simp only [List.map_cons, List.sum_cons, hcat]; omega) hlocks
  obtain ⟨f1, f2⟩ := vx_frame hsame
  rw [hhp] at f1 f2
  have hWs : s.WarmedH U.vm := State.WarmedH.trans hW0 hW
  have hcl : s.vm.findClass cls = some ce.cls := by
    have h9 := hO.cls
    rw [hvm] at h9
    exact h9
  have hall : s.sameButNew ({ U with vm := s.vm } : State) locs mc ms := by
    subst hA
    obtain ⟨e1, e2⟩ := hsame
    rw [State.setFrames_setFrames] at e1
    have h2 : (T.setVm s.vm).sameButNew ({ U with vm := s.vm } : State) [] (0 + 1) (0 + 6) := ⟨e1, e2⟩
    have h3 := X.same.trans h2
    rw [List.append_nil] at h3
    exact h3.mono hc hs
  refine ⟨U, ?_, .threw T.heap.size, hrun, hend, Or.inr ⟨T.heap.size, rfl, cls, ce, locs, hx U hWs.alike f1 (fun q hq => f2 q hq (fun z hz => nomatch hz)), hce, hO.vm, hcl, hWs, hall, hf⟩⟩
  refine st1 _ ?_
  show Steps p.tables e below (T1.setTop { method := m, pc := pc + 3, locals := ls, stack := .ref T.heap.size :: rest, locked := none }) _
  jvm_step X₁.here [X₁.here.top, hexec, d3', Value.category]
  exact hsteps
/-- 'throw new E("text")': new; dup; ldc; invokespecial; athrow -/
theorem vx_throwS {cc : ByteArray} {pc : Nat} (hexec : p.tables.exec = Jvm.exec) (hb : c.code = cc) (hl : l.stackTraces = false) {own cls text : String} {names : List String} {ik is ic mc ms sa : Nat} {A : Nat → Prop}
    (hown : s.vm.findClass own = some m.cls) (hcls : Bundle.fit cls = true) (hnames : ∀ n ∈ names, Bundle.fit n = true)
    (hk : (Cond.classLink own ik cls).before args s = true) (hini : (Cond.initialized cls).before args s = true) (hstr : vk_R own is text sa s) (hat : ∀ w ∈ vx_atS own ic cls names, w.before args s = true)
    (hgood : ∀ w ∈ Cond.classLink own ik cls :: Cond.initialized cls :: vx_atS own ic cls names, vx_ot w = true)
    (hU : vx_Zq Bundle.tN "UNASSIGNED_STACK" Bundle.steD A s s.heap) (hN : vx_Zq Bundle.tN "SUPPRESSED_SENTINEL" Bundle.listD A s s.heap) (hS : va_S A s.heap H locs) (hsize : ls.size = c.maxLocals)
    (d0 : decode cc pc = .ok (.new ik, 3)) (d3 : decode cc (pc + 3) = .ok (.dup, 1)) (d4 : decode cc (pc + 4) = .ok (.ldc is, 2)) (d6 : decode cc (pc + 6) = .ok (.invokespecial ic, 3)) (d9 : decode cc (pc + 9) = .ok (.athrow, 1))
    (hout : ∀ x ∈ c.exceptionTable.toList, covers x (pc + 9) = false)
    (hRframes : names.length + 3 < R.frames) (hRlocals : (rest.map fun v => v.category).sum + (13 * (names.length + 1) + 43) ≤ R.locals) (hRcells : cells + 1 ≤ R.cells) (hRslots : slots + 6 ≤ R.slots) (hlocks : meth.locks = false)
    (hx : ∀ t : State, s.vm.Alike t.vm → H.size ≤ t.heap.size → (∀ q : Nat, q < H.size → t.heap[q]? = H[q]?) → XC cls s t)
    (hf : ∀ z ∈ locs, free z.base) (hc : cells + 1 ≤ mc) (hs : slots + 6 ≤ ms) :
    W p l e R s m args below meth c H locs cells slots (vx_MQ below Qc XC args s mc ms free) (F0 m pc ls rest) := by
  intro T hT X
  have htr : e.platform.stackTraces = false := (show e.platform.stackTraces = l.stackTraces by rw [X.admits.platform]).trans hl
  have Y := vx_rebase X (R' := { frames := R.frames, locals := R.locals, cells := 1, slots := 6 }) (Nat.le_refl _) (Nat.le_refl _) hRcells hRslots
  obtain ⟨s', hA⟩ : ∃ z, z = (T.setVm s.vm).setFrames (.invoking m args :: below) := ⟨_, rfl⟩
  rw [← hA] at Y
  have hvm : s'.vm = s.vm := by rw [hA]; rfl
  have hhp : s'.heap = H := by rw [hA]; exact hT
  have hW0 : s.WarmedH s'.vm := by rw [hvm]; exact State.WarmedH.refl s
  have hat' : ∀ w ∈ vx_atS own ic cls names, w.before args s' = true := fun w hw => vx_ot_at hW0 hvm.symm (hgood w (List.mem_cons_of_mem _ (List.mem_cons_of_mem _ hw))) (hat w hw)
  have hk' : (Cond.classLink own ik cls).before args s' = true := vx_ot_at hW0 hvm.symm (hgood _ List.mem_cons_self) hk
  have hini' : (Cond.initialized cls).before args s' = true := vx_ot_at hW0 hvm.symm (hgood _ (List.mem_cons_of_mem _ List.mem_cons_self)) hini
  have hU' : vx_Zq Bundle.tN "UNASSIGNED_STACK" Bundle.steD A s' s'.heap := by rw [hhp]; exact vx_Zq.moved hW0.alike (hU.kept hS.2.1)
  have hN' : vx_Zq Bundle.tN "SUPPRESSED_SENTINEL" Bundle.listD A s' s'.heap := by rw [hhp]; exact vx_Zq.moved hW0.alike (hN.kept hS.2.1)
  have h : ∀ w ∈ Bundle.ownAtoms own ic cls names, w.before args s' = true := vx_own hat' (vx_isRefq hU'.1) (vx_isRefq hN'.1) hU'.2.word hN'.2.word
  have hown' : s'.vm.findClass own = some m.cls := by rw [hvm]; exact hown
  have hins : (Cond.instantiable cls 6).before args s' = true := h _ (by simp [Bundle.ownAtoms])
  obtain ⟨vm₁, cX, kX, hfX, hkX, -, -, X₁, st1⟩ := Y.newCold hexec (own := own) (C := cls) (index := ik) (n := 6) hown' hk' hins hini'
    (g := F0 m pc ls rest) rfl (by rw [hb]; exact d0) (Nat.le_refl _) (Nat.le_refl _)
  generalize hT1 : (T.setVm vm₁).pushCell { cls := cX, slots := kX.instanceTypes.map defaultValue, vm := .none } = T1 at X₁ st1
  have hcat : (Value.ref T.heap.size).category = 1 := rfl
  have hcellA : T1.heap[T.heap.size]? = some (freshCell cX kX) := by rw [← hT1]; exact State.heap_pushCell_size _ _
  have d3' : decode c.code (pc + 3) = .ok (.dup, 1) := by rw [hb]; exact d3
  have d4' : decode c.code (pc + 4) = .ok (.ldc is, 2) := by rw [hb]; exact d4
  have hstr' : vk_R own is text sa s' := vk_R.warm hW0 hstr
  obtain ⟨U, hsteps, hrun, hend, hW, hsame, ce, hce, hO⟩ := X₁.ctorThrowS hexec htr (own := own) (cls := cls) (names := names) (ic := ic) hown' hcls hnames h (fun x hx => nomatch hx) hfX hkX hcellA (by rw [hhp, hT]; exact Nat.le_refl _) (msg := .ref sa) rfl
    (g := { method := m, pc := pc + 6, locals := ls, stack := .ref sa :: .ref T.heap.size :: .ref T.heap.size :: rest, locked := none }) rfl hsize rfl rfl (rest := rest) rfl
    (by rw [hb]; exact d6) (by rw [hb]; exact d9) hout hRframes (by simp only [List.map_cons, List.sum_cons, hcat]; omega) hlocks
  obtain ⟨f1, f2⟩ := vx_frame hsame
  rw [hhp] at f1 f2
  have hWs : s.WarmedH U.vm := State.WarmedH.trans hW0 hW
  have hcl : s.vm.findClass cls = some ce.cls := by
    have h9 := hO.cls
    rw [hvm] at h9
    exact h9
  have hall : s.sameButNew ({ U with vm := s.vm } : State) locs mc ms := by
    subst hA
    obtain ⟨e1, e2⟩ := hsame
    rw [State.setFrames_setFrames] at e1
    have h2 : (T.setVm s.vm).sameButNew ({ U with vm := s.vm } : State) [] (0 + 1) (0 + 6) := ⟨e1, e2⟩
    have h3 := X.same.trans h2
    rw [List.append_nil] at h3
    exact h3.mono hc hs
  refine ⟨U, ?_, .threw T.heap.size, hrun, hend, Or.inr ⟨T.heap.size, rfl, cls, ce, locs, hx U hWs.alike f1 (fun q hq => f2 q hq (fun z hz => nomatch hz)), hce, hO.vm, hcl, hWs, hall, hf⟩⟩
  refine st1 _ ?_
  show Steps p.tables e below (T1.setTop { method := m, pc := pc + 3, locals := ls, stack := .ref T.heap.size :: rest, locked := none }) _
  jvm_step X₁.here [X₁.here.top, hexec, d3', Value.category]
  exact X₁.ldcString hexec (own := own) (text := text) (index := is) (a := sa) hown' hstr'.1 hstr'.2
    (g := { method := m, pc := pc + 4, locals := ls, stack := .ref T.heap.size :: .ref T.heap.size :: rest, locked := none }) rfl d4' _ hsteps
/-- 'throw new E("text")', the text by a wide index -/
theorem vx_throwSW {cc : ByteArray} {pc : Nat} (hexec : p.tables.exec = Jvm.exec) (hb : c.code = cc) (hl : l.stackTraces = false) {own cls text : String} {names : List String} {ik is ic mc ms sa : Nat} {A : Nat → Prop}
    (hown : s.vm.findClass own = some m.cls) (hcls : Bundle.fit cls = true) (hnames : ∀ n ∈ names, Bundle.fit n = true)
    (hk : (Cond.classLink own ik cls).before args s = true) (hini : (Cond.initialized cls).before args s = true) (hstr : vk_R own is text sa s) (hat : ∀ w ∈ vx_atS own ic cls names, w.before args s = true)
    (hgood : ∀ w ∈ Cond.classLink own ik cls :: Cond.initialized cls :: vx_atS own ic cls names, vx_ot w = true)
    (hU : vx_Zq Bundle.tN "UNASSIGNED_STACK" Bundle.steD A s s.heap) (hN : vx_Zq Bundle.tN "SUPPRESSED_SENTINEL" Bundle.listD A s s.heap) (hS : va_S A s.heap H locs) (hsize : ls.size = c.maxLocals)
    (d0 : decode cc pc = .ok (.new ik, 3)) (d3 : decode cc (pc + 3) = .ok (.dup, 1)) (d4 : decode cc (pc + 4) = .ok (.ldc_w is, 3)) (d7 : decode cc (pc + 7) = .ok (.invokespecial ic, 3)) (d10 : decode cc (pc + 10) = .ok (.athrow, 1))
    (hout : ∀ x ∈ c.exceptionTable.toList, covers x (pc + 10) = false)
    (hRframes : names.length + 3 < R.frames) (hRlocals : (rest.map fun v => v.category).sum + (13 * (names.length + 1) + 43) ≤ R.locals) (hRcells : cells + 1 ≤ R.cells) (hRslots : slots + 6 ≤ R.slots) (hlocks : meth.locks = false)
    (hx : ∀ t : State, s.vm.Alike t.vm → H.size ≤ t.heap.size → (∀ q : Nat, q < H.size → t.heap[q]? = H[q]?) → XC cls s t)
    (hf : ∀ z ∈ locs, free z.base) (hc : cells + 1 ≤ mc) (hs : slots + 6 ≤ ms) :
    W p l e R s m args below meth c H locs cells slots (vx_MQ below Qc XC args s mc ms free) (F0 m pc ls rest) := by
  intro T hT X
  have htr : e.platform.stackTraces = false := (show e.platform.stackTraces = l.stackTraces by rw [X.admits.platform]).trans hl
  have Y := vx_rebase X (R' := { frames := R.frames, locals := R.locals, cells := 1, slots := 6 }) (Nat.le_refl _) (Nat.le_refl _) hRcells hRslots
  obtain ⟨s', hA⟩ : ∃ z, z = (T.setVm s.vm).setFrames (.invoking m args :: below) := ⟨_, rfl⟩
  rw [← hA] at Y
  have hvm : s'.vm = s.vm := by rw [hA]; rfl
  have hhp : s'.heap = H := by rw [hA]; exact hT
  have hW0 : s.WarmedH s'.vm := by rw [hvm]; exact State.WarmedH.refl s
  have hat' : ∀ w ∈ vx_atS own ic cls names, w.before args s' = true := fun w hw => vx_ot_at hW0 hvm.symm (hgood w (List.mem_cons_of_mem _ (List.mem_cons_of_mem _ hw))) (hat w hw)
  have hk' : (Cond.classLink own ik cls).before args s' = true := vx_ot_at hW0 hvm.symm (hgood _ List.mem_cons_self) hk
  have hini' : (Cond.initialized cls).before args s' = true := vx_ot_at hW0 hvm.symm (hgood _ (List.mem_cons_of_mem _ List.mem_cons_self)) hini
  have hU' : vx_Zq Bundle.tN "UNASSIGNED_STACK" Bundle.steD A s' s'.heap := by rw [hhp]; exact vx_Zq.moved hW0.alike (hU.kept hS.2.1)
  have hN' : vx_Zq Bundle.tN "SUPPRESSED_SENTINEL" Bundle.listD A s' s'.heap := by rw [hhp]; exact vx_Zq.moved hW0.alike (hN.kept hS.2.1)
  have h : ∀ w ∈ Bundle.ownAtoms own ic cls names, w.before args s' = true := vx_own hat' (vx_isRefq hU'.1) (vx_isRefq hN'.1) hU'.2.word hN'.2.word
  have hown' : s'.vm.findClass own = some m.cls := by rw [hvm]; exact hown
  have hins : (Cond.instantiable cls 6).before args s' = true := h _ (by simp [Bundle.ownAtoms])
  obtain ⟨vm₁, cX, kX, hfX, hkX, -, -, X₁, st1⟩ := Y.newCold hexec (own := own) (C := cls) (index := ik) (n := 6) hown' hk' hins hini'
    (g := F0 m pc ls rest) rfl (by rw [hb]; exact d0) (Nat.le_refl _) (Nat.le_refl _)
  generalize hT1 : (T.setVm vm₁).pushCell { cls := cX, slots := kX.instanceTypes.map defaultValue, vm := .none } = T1 at X₁ st1
  have hcat : (Value.ref T.heap.size).category = 1 := rfl
  have hcellA : T1.heap[T.heap.size]? = some (freshCell cX kX) := by rw [← hT1]; exact State.heap_pushCell_size _ _
  have d3' : decode c.code (pc + 3) = .ok (.dup, 1) := by rw [hb]; exact d3
  have d4' : decode c.code (pc + 4) = .ok (.ldc_w is, 3) := by rw [hb]; exact d4
  have hstr' : vk_R own is text sa s' := vk_R.warm hW0 hstr
  obtain ⟨U, hsteps, hrun, hend, hW, hsame, ce, hce, hO⟩ := X₁.ctorThrowS hexec htr (own := own) (cls := cls) (names := names) (ic := ic) hown' hcls hnames h (fun x hx => nomatch hx) hfX hkX hcellA (by rw [hhp, hT]; exact Nat.le_refl _) (msg := .ref sa) rfl
    (g := { method := m, pc := pc + 7, locals := ls, stack := .ref sa :: .ref T.heap.size :: .ref T.heap.size :: rest, locked := none }) rfl hsize rfl rfl (rest := rest) rfl
    (by rw [hb]; exact d7) (by rw [hb]; exact d10) hout hRframes (by simp only [List.map_cons, List.sum_cons, hcat]; omega) hlocks
  obtain ⟨f1, f2⟩ := vx_frame hsame
  rw [hhp] at f1 f2
  have hWs : s.WarmedH U.vm := State.WarmedH.trans hW0 hW
  have hcl : s.vm.findClass cls = some ce.cls := by
    have h9 := hO.cls
    rw [hvm] at h9
    exact h9
  have hall : s.sameButNew ({ U with vm := s.vm } : State) locs mc ms := by
    subst hA
    obtain ⟨e1, e2⟩ := hsame
    rw [State.setFrames_setFrames] at e1
    have h2 : (T.setVm s.vm).sameButNew ({ U with vm := s.vm } : State) [] (0 + 1) (0 + 6) := ⟨e1, e2⟩
    have h3 := X.same.trans h2
    rw [List.append_nil] at h3
    exact h3.mono hc hs
  refine ⟨U, ?_, .threw T.heap.size, hrun, hend, Or.inr ⟨T.heap.size, rfl, cls, ce, locs, hx U hWs.alike f1 (fun q hq => f2 q hq (fun z hz => nomatch hz)), hce, hO.vm, hcl, hWs, hall, hf⟩⟩
  refine st1 _ ?_
  show Steps p.tables e below (T1.setTop { method := m, pc := pc + 3, locals := ls, stack := .ref T.heap.size :: rest, locked := none }) _
  jvm_step X₁.here [X₁.here.top, hexec, d3', Value.category]
  exact X₁.ldcStringW hexec (own := own) (text := text) (index := is) (a := sa) hown' hstr'.1 hstr'.2
    (g := { method := m, pc := pc + 4, locals := ls, stack := .ref T.heap.size :: .ref T.heap.size :: rest, locked := none }) rfl d4' _ hsteps
end Ends
section Bodies
variable {l : Launch}
theorem vx_ofW {y : MethodName} {ws ws' : List Cond} {rm : Room} {Pc : Array Value → State → Prop} {Qc : Array Value → State → Outcome → State → Prop} {XC : String → State → State → Prop} {mc ms : Nat} {free : Addr → Prop} {cc : ByteArray} {maxL : Nat} {ret : Option FieldType}
    (hy : plainName y.cls = true) (hw : ws = Cond.code y cc maxL ret :: ws')
    (body : ∀ p e s m args below meth c s₁, BodyLoose p l y (headSpec ws rm) cc maxL ret e s m args below meth c s₁ → c.maxLocals = maxL → (∀ x ∈ c.exceptionTable.toList, False) → Pc args s →
      W p l e (headSpec ws rm).room s m args below meth c s.heap [] 0 0 (vx_MQ below Qc XC args s mc ms free) (entryFrame m args maxL)) : vx_Met l y ws rm Pc Qc XC mc ms free := by
  refine MetFree.of_bodyS (code := cc) (maxLocals := maxL) (ret := ret) hy ?_ ?_
  · intro args s m h hn
    obtain ⟨meth, c, h1, h2, h3, h4, h5, h6, -, -⟩ := Cond.code_spec hn (atoms_spec (ws := ws) h _ (by rw [hw]; exact List.mem_cons_self))
    exact ⟨meth, c, h1, h2, h3, h4, h5, h6⟩
  · intro p e s m args below meth c s₁ B hml hP _
    have hh0 : s₁.heap = s.heap := by rw [B.state]; rfl
    have ht : ∀ x ∈ c.exceptionTable.toList, False := by
      obtain ⟨meth9, c9, h1, h2, -, -, -, -, h7, -⟩ := Cond.code_spec B.named (atoms_spec (ws := ws) B.pre _ (by rw [hw]; exact List.mem_cons_self))
      cases Option.some.inj (h1.symm.trans B.method)
      cases Option.some.inj (h2.symm.trans (Stand.of_body B).code)
      intro x hx
      rw [Array.isEmpty_iff.mp h7] at hx
      cases hx
    obtain ⟨t, a1, o, b1, b2, b3⟩ := body p e s m args below meth c s₁ B hml ht hP s₁ hh0 (Stand.of_body B)
    exact ⟨t, o, a1, b1, b2, b3⟩
/-- the table of a body with handlers -/
theorem vx_table {p : Program} {x y : MethodName} {S : Spec} {cc bytes : ByteArray} {maxL maxL' : Nat} {ret ret' : Option FieldType} {e : Env} {s s₁ : State} {m : MethodId} {args : Array Value} {below : List Frame} {meth : Method} {c : Code} {hh : List (Nat × Nat × Nat × Nat)}
    (B : BodyLoose p l y S cc maxL ret e s m args below meth c s₁) (h : (Cond.codeWith y bytes maxL' ret' hh).before args s = true) : c.exceptionTable.toList = tableOf hh := by
  obtain ⟨m9, meth9, c9, hn9, h1, h2, -, -, h6, -⟩ := Cond.codeWith_spec h
  cases Option.some.inj (hn9.symm.trans B.named)
  cases Option.some.inj (h1.symm.trans B.method)
  cases Option.some.inj (h2.symm.trans (Stand.of_body B).code)
  rw [← h6, table_eq]
end Bodies
end VXA
/-! ===== END ===== -/
/-! ===== BEGIN a static call of a method with an exception table ===== -/
section VXS
variable {p : Program} {l : Launch} {e : Env} {R : Room} {s : State} {m : MethodId} {args : Array Value} {below : List Frame} {meth : Method} {c : Code} {T : State} {H : Heap} {locs : List Loc} {cells slots : Nat}
abbrev vx_CSW (R : Room) (s : State) (args : Array Value) (own : String) (index : Nat) (y : MethodName) (bytes : ByteArray) (maxL : Nat) (ret : Option FieldType) (hh : List (Nat × Nat × Nat × Nat)) (ws : List Cond) (rm : Room) (mc ms n : Nat) : Prop :=
  (rm.cells = mc ∧ rm.slots = ms ∧ rm.frames + 1 ≤ R.frames ∧ 8 + (maxL + 11) + rm.locals ≤ R.locals ∧ (∀ w ∈ ws, ∀ (a' : Array Value) (U : State), s.WarmedH U.vm → w.before a' U = true) ∧ Cond.codeWith y bytes maxL ret hh ∈ ws) ∧
  (Cond.codeWith y bytes maxL ret hh).before args s = true ∧ (Cond.initialized y.cls).before args s = true ∧ (y.cls ≠ "java/lang/invoke/MethodHandle" ∧ y.cls ≠ "java/lang/invoke/VarHandle") ∧
  (∀ sig, parseMethodDescriptor y.desc = some sig → n = sig.parameters.length) ∧ (Cond.methodLink own index y).before args s = true ∧ (Cond.static y).before args s = true
theorem vx_cwSW {own : String} {index maxL mc ms : Nat} {y : MethodName} {bytes : ByteArray} {ret : Option FieldType} {hh : List (Nat × Nat × Nat × Nat)} {Ts ws ws' : List Cond} {rm : Room} (n : Nat) (ht : ∀ w ∈ Ts, w.before args s = true) (hT : GoodIn Ts (va_wsS own index y ws)) (hw : ws = Cond.codeWith y bytes maxL ret hh :: ws') (hrc : rm.cells = mc) (hrs : rm.slots = ms)
    (hd : y.cls ≠ "java/lang/invoke/MethodHandle" ∧ y.cls ≠ "java/lang/invoke/VarHandle" ∧ (parseMethodDescriptor y.desc).map (fun d => d.parameters.length) = some n) (hR : rm.frames + 1 ≤ R.frames ∧ 8 + (maxL + 11) + rm.locals ≤ R.locals) :
    vx_CSW R s args own index y bytes maxL ret hh ws rm mc ms n := by
  have ok : ∀ w ∈ va_wsS own index y ws, w.before args s = true := fun w h => ht w (hT w h).1
  have hG : GoodIn Ts ws := fun w h => hT w (by unfold va_wsS; exact List.mem_append_right _ h)
  have hc : Cond.codeWith y bytes maxL ret hh ∈ ws := by rw [hw]; exact List.mem_cons_self
  refine ⟨⟨hrc, hrs, hR.1, hR.2, pay_in ht hG, hc⟩, ht _ (hG _ hc).1, ok _ (by simp [va_wsS]), ⟨hd.1, hd.2.1⟩, fun sig h => ?_, ok _ (by simp [va_wsS]), ok _ (by simp [va_wsS])⟩
  have h2 := hd.2.2
  rw [h] at h2
  exact (Option.some.inj h2).symm
theorem vx_callSW (X : Stand p l e R s m args below meth c T locs cells slots) (hexec : p.tables.exec = Jvm.exec) {own : String} {index : Nat} {y : MethodName} {bytes : ByteArray} {maxL : Nat} {ret : Option FieldType} {hh : List (Nat × Nat × Nat × Nat)}
    (hown : s.vm.findClass own = some m.cls) (hlink : (Cond.methodLink own index y).before args s = true) (hstat : (Cond.static y).before args s = true) (hinit : (Cond.initialized y.cls).before args s = true)
    (hcode : (Cond.codeWith y bytes maxL ret hh).before args s = true) (hy : y.cls ≠ "java/lang/invoke/MethodHandle" ∧ y.cls ≠ "java/lang/invoke/VarHandle")
    {W9 : Nat} {Pre : Pt → Array Value → Prop} {Post : Pt → Array Value → Option Value → Pt → Prop} (hK : Back l R p e below s args y 3 W9 Pre Post)
    {g : JFrame} (hg : g.method = m) (hsize : g.locals.size = c.maxLocals) {argsL rest : List Value} (hlen : ∀ sig, parseMethodDescriptor y.desc = some sig → argsL.length = sig.parameters.length)
    (hstack : g.stack = argsL.reverse ++ rest) (hW : 2 * g.monitorRoom + (rest.map fun v => v.category).sum ≤ W9) (hdg : decode c.code g.pc = .ok (.invokestatic index, 3))
    (hpre : ∀ vm₁, s.WarmedH vm₁ → Pre ⟨T.setVm vm₁, locs, cells, slots⟩ argsL.toArray) :
    ∃ (v : Option Value) (vm₁ : Vm) (B : Pt), s.WarmedH vm₁ ∧ Stand p l e R s m args below meth c B.U B.locs B.cells B.slots ∧ Post ⟨T.setVm vm₁, locs, cells, slots⟩ argsL.toArray v B ∧
      ∀ target, Steps p.tables e below (B.U.setTop { g with pc := g.pc + 3, stack := v.toList ++ rest }) target → Steps p.tables e below (T.setTop g) target := by
  obtain ⟨mk, methM, cM, hnamed, hmethM, -, -, -, -, -, -, hsigM⟩ := Cond.codeWith_spec hcode
  have hstatic : methM.isStatic = true := Cond.static_spec hnamed hmethM hstat
  obtain ⟨kP, hkP, -⟩ := className_of_methodNamed hnamed
  have hinitP : kP.init = .initialized := Cond.initialized_spec (findClass_of_methodNamed hnamed) hkP hinit
  obtain ⟨vm₁, X₁, hstep₁⟩ := X.invokestatic hexec hown hlink hnamed hmethM hstatic hkP hinitP hy (g := g) hg (argsL := argsL) (rest := rest) (hlen _ hsigM) hstack hdg
  obtain ⟨v, B, X', hpost, hsteps⟩ := hK m meth c ⟨T.setVm vm₁, locs, cells, slots⟩ { g with stack := rest } (.invokestatic index) mk argsL.toArray X₁ hg hsize hdg hW (X₁.named hnamed) (hpre vm₁ X₁.warmed)
  exact ⟨v, vm₁, B, X₁.warmed, X', hpost, fun target h => hstep₁ _ fun acts => by rw [doInvoke_state]; exact hsteps.trans h⟩
theorem vx_runSW {y : MethodName} {bytes cc : ByteArray} {maxL nL mc ms n index : Nat} {ret : Option FieldType} {hh : List (Nat × Nat × Nat × Nat)} {ws : List Cond} {rm : Room} {Pc : Array Value → State → Prop} {Qc : Array Value → State → Outcome → State → Prop} {free : Addr → Prop} {Ts : List Cond} {own : String} {As rest : List Value} {g : JFrame}
    (S : CallFix p m c cc nL s args Ts own) (hM : Met l y ws rm Pc Qc mc ms free) (cw : vx_CSW R s args own index y bytes maxL ret hh ws rm mc ms n) (hp : PreS s H Pc As)
    (hg : g.method = m) (hn : As.length = n) (hsize : g.locals.size = nL) (hstack : g.stack = As.reverse ++ rest) (hW : 2 * g.monitorRoom + (rest.map fun v => v.category).sum ≤ 8) (hdg : decode cc g.pc = .ok (.invokestatic index, 3)) (hf : cells + mc ≤ R.cells ∧ slots + ms ≤ R.slots) :
    va_Run p l e R s m args below meth c H locs cells slots mc ms g rest (Qc As.toArray) (free) := by
  obtain ⟨⟨hrc, hrs, hfr, hlo, hws, hcw⟩, hcode, hini, hy, hlen, hl, hstt⟩ := cw
  have hK : Back l R p e below s args y 3 8 (PreOf R mc ms Pc) (PostOf Qc mc ms free) := va_backW (hh := hh) (bytes := bytes) (maxL := maxL) (ret := ret) hM hp.1 hrc hrs hfr hlo hws hcw (fun a' U hW => word_at hW (Or.inl (by first | rfl | simp [Cond.onTables, Cond.keeps, Cond.steady])) hini)
  obtain ⟨hx, hb, hml, ho, -⟩ := S
  intro T hT X
  obtain ⟨v, vm₁, ⟨U', l2, c2, s2⟩, hW₁, X', ⟨g', mk, t, L, e1, e2, hq, h1, hL, h2, h3⟩, st⟩ := vx_callSW X hx (hh := hh) (bytes := bytes) (maxL := maxL) (ret := ret) ho hl hstt hini hcode hy hK hg (hsize.trans hml.symm) (argsL := As) (rest := rest) (fun sig h => hn.trans (hlen sig h)) hstack hW (by rw [hb]; exact hdg)
    (fun vm₁ hW₁ => ⟨hf.1, hf.2, hp.2 (T.setVm vm₁) hT hW₁⟩)
  dsimp only [Pt.U, Pt.locs, Pt.cells, Pt.slots] at X' e1 e2 h1 h2 h3 st
  subst h1; subst h2; subst h3
  exact ⟨v, (T.setVm vm₁).calling g' mk As.toArray, t, U', L, hT, X', hL, e1, e2, hq, st⟩
/-- not caught here, past rows that name other classes: it goes on to the caller -/
theorem vx_outP {p : Program} {l : Launch} {e : Env} {R : Room} {s : State} {m : MethodId} {args : Array Value} {below : List Frame} {meth : Method} {c : Code} {H : Heap} {locs : List Loc} {cells slots : Nat} {free : Addr → Prop} {ls : Array Slot} {rest : List Value} {Qc : Array Value → State → Outcome → State → Prop} {XC : String → State → State → Prop}
    {pc : Nat} {own E : String} {ce : Cell} {q : Addr} {mc ms : Nat} (hown : s.vm.findClass own = some m.cls) (hlocks : meth.locks = false)
    (hpass : ∀ z ∈ c.exceptionTable.toList, covers z pc = false ∨ (z.catchType ≠ 0 ∧ ∃ nm : String, (Cond.classLink own z.catchType nm).before args s = true ∧ va_Nc E nm s)) (hcell : H[q]? = some ce) (hv : ce.vm = .none) (hcl : s.vm.findClass E = some ce.cls)
    (hx : ∀ t : State, t.heap = H → s.vm.Alike t.vm → XC E s t) (hf : ∀ z ∈ locs, free z.base) (hc : cells ≤ mc) (hs : slots ≤ ms) :
    vx_W p l e R s m args below meth c H locs cells slots (vx_MQ below Qc XC args s mc ms free) (F0 m pc ls rest) q := by
  intro T hT X
  have hpl : e.platform.magicAccessors = ({} : Platform).magicAccessors := by rw [X.admits.platform]
  obtain ⟨vm', hW', X', st⟩ := X.outThrough hlocks q (g := F0 m pc ls rest) rfl rfl rfl (cell := ce) (by rw [hT]; exact hcell) (by rw [hv]; rfl)
    (by obtain ⟨k9, h9, -⟩ := Vm.findClass_spec hcl; exact ⟨k9, h9⟩) (fun z hz => by
      rcases hpass z hz with h | ⟨hz0, nm, hl1, hn1⟩
      · exact Or.inl h
      · obtain ⟨c6, hc6, hcl6⟩ := Cond.classLink_spec hown hl1 e.platform hpl
        obtain ⟨a8, b8, h1, h2, h3⟩ := hn1
        cases Option.some.inj (h1.symm.trans hcl)
        cases Option.some.inj (h2.symm.trans hc6)
        exact Or.inr ⟨hz0, _, hcl6, h3⟩)
  obtain ⟨g₀, hfr⟩ := X'.frames_eq
  have hcell9 : ((T.setVm vm').setFrames (.throwing q :: below)).heap[q]? = some ce := by
    show T.heap[q]? = some ce
    rw [hT]; exact hcell
  have hend : Ended ((T.setVm vm').setFrames (.throwing q :: below)) below (.threw q) := State.frames_setFrames _ (State.cur_lt_of_frames hfr)
  refine ⟨(T.setVm vm').setFrames (.throwing q :: below), ?_, .threw q, X'.here.running, hend, Or.inr ⟨q, rfl, E, ce, locs, hx _ hT (X'.ends _).1.alike, hcell9, hv, hcl, (X'.ends _).1, (X'.ends _).2.mono hc hs, hf⟩⟩
  rw [X.pushThrowing_eq]
  exact st
/-- a thing of a world lies in the heap -/
theorem vx_lt {D : va_G} {cl : List vw_C} {ws : va_W} {H1 : Heap} (h : va_P D cl ws H1) {k : Nat} {q : Nat × va_E} (hk : ws[k]? = some q) : q.1 < H1.size := (h k q hk).lt
end VXS
/-! ===== END ===== -/
/-! ===== BEGIN methods with a table of their own: called by a name, returning or throwing ===== -/
section VXH
/-! vx_backW, vx_callVX, vx_callSX, vx_callVW, vx_runVW, vx_runVX, vx_runSX, vx_ofWH follow the same proofs as their sisters above (Free/Laws.lean, Shelf42/LK1.lean); vx_outP calls Shelf42/NT130.lean (outThrough). -/
section
variable {l : Launch} {R : Room} {p : Program} {e : Env} {below : List Frame} {s : State} {sargs : Array Value} {y : MethodName} {len W9 : Nat}
theorem vx_backW {ws : List Cond} {rm : Room} {Pc : Array Value → State → Prop} {Qc : Array Value → State → Outcome → State → Prop} {XC : String → State → State → Prop} {mc ms : Nat} {free : Addr → Prop} {bytes : ByteArray} {maxL : Nat} {ret : Option FieldType} {hh : List (Nat × Nat × Nat × Nat)}
    (hM : vx_Met l y ws rm Pc Qc XC mc ms free) (hblind : FrameBlind Pc) (hrc : rm.cells = mc) (hrs : rm.slots = ms)
    (hframes : rm.frames + 1 ≤ R.frames) (hlocals : W9 + (maxL + 11) + rm.locals ≤ R.locals)
    (hws : ∀ w ∈ ws, ∀ a' U, s.WarmedH U.vm → w.before a' U = true) (hcode : Cond.codeWith y bytes maxL ret hh ∈ ws) (hinit : ∀ a' U, s.WarmedH U.vm → (Cond.initialized y.cls).before a' U = true) :
    vx_Back l R p e below s sargs y len W9 (PreOf R mc ms Pc) (PostOf Qc mc ms free) (vx_Post XC mc ms free) := by
  intro m meth c A g ig mk a X hg hsize hdg hW hn hp
  have h1 : (headSpec ws rm).pre.before a A.U = true := atoms_intro fun w hw => hws w hw _ _ X.warmed
  have h2 : (Cond.codeWith y bytes maxL ret hh).before a A.U = true := hws _ hcode _ _ X.warmed
  have h3 : (Cond.initialized y.cls).before a A.U = true := hinit _ _ X.warmed
  have h4 : A.cells + (headSpec ws rm).room.cells ≤ R.cells := by rw [show (headSpec ws rm).room.cells = mc from hrc]; exact hp.1
  have h5 : A.slots + (headSpec ws rm).room.slots ≤ R.slots := by rw [show (headSpec ws rm).room.slots = ms from hrs]; exact hp.2.1
  have hPc : Pc a (A.U.calling g mk a) := hblind _ _ _ _ hp.2.2
  obtain ⟨U, Ls, c0, s0⟩ := A
  dsimp only [Pt.U, Pt.locs, Pt.cells, Pt.slots] at h1 h2 h3 h4 h5 X hn hPc ⊢
  obtain ⟨m9, methY, cY, hn9, hmY, hcY, -, hlY, -⟩ := Cond.codeWith_spec h2
  cases Option.some.inj (hn9.symm.trans hn)
  obtain ⟨kY, hkY, -⟩ := className_of_methodNamed hn
  have hinitY : kY.init = .initialized := Cond.initialized_spec (findClass_of_methodNamed hn) hkY h3
  have h : At U g.method c below := by rw [hg]; exact X.here
  have hlocals9 : W9 + (maxL + 11) + (headSpec ws rm).room.locals ≤ R.locals := hlocals
  have happ : (headSpec ws rm).appliesLoose y e.platform (U.calling g mk a) = true :=
    Spec.appliesLoose_calling (g := g) h hdg hn hkY hinitY
      (X.room_calling (g := g) (R' := (headSpec ws rm).room) hsize hmY hcY hframes (by rw [hlY]; omega) h4 h5) h1
  obtain ⟨mid, hmid⟩ := h.above
  have hfr : (U.setTop g).frames = (.java g :: mid) ++ below := by rw [State.frames_setTop' g h.top, hmid]; rfl
  obtain ⟨o, s₂, hsteps, -, hend, hq⟩ := Steps.callFree hM p X.admits X.cas X.clock (acts := []) hfr happ hPc trivial
  have hq' : vx_Q Qc XC mc ms free a (U.calling g mk a) o s₂ := hq
  rw [State.frames_setTop' g h.top] at hend
  obtain ⟨g₀, hg0⟩ := Option.isSome_iff_exists.mp h.top
  obtain ⟨r, hr⟩ := State.topJava?_eq_some.mp hg0
  have hr' : (({ U with heap := s₂.heap, slotsUsed := s₂.slotsUsed } : State).setVm s₂.vm).frames = .java g₀ :: r := hr
  rcases hq' with ⟨hqc, L, hfe, hL⟩ | ⟨q, rfl, E, ce, L, hx, hce, hcv, hcl, hW₂, hsm, hL⟩
  · obtain ⟨⟨v, rfl⟩, hW₂, e2, q2, q3, q4, q5, q6⟩ := id hfe
    have e3 : s₂ = ({ (U.calling g mk a).setFrames s₂.frames with heap := s₂.heap, slotsUsed := s₂.slotsUsed } : State).setVm s₂.vm := by
      have : s₂ = ({ s₂ with vm := (U.calling g mk a).vm } : State).setVm s₂.vm := rfl
      rw [e2] at this
      exact this
    obtain ⟨c₂, i₂, len₂, hc₂, hd₂, hf₂⟩ := hend
    have hW' : U.WarmedH s₂.vm := hW₂
    have hcc : c₂ = c := by
      have h1 : s₂.code? g.method = U.code? g.method := by
        rw [State.code?_eq, State.code?_eq, hW'.alike.method?]
      exact Option.some.inj (hc₂.symm.trans (h1.trans h.code))
    subst hcc
    have hlen : len₂ = len := by rw [hdg] at hd₂; cases hd₂; rfl
    subst hlen
    have hs₂ : s₂ = (({ U with heap := s₂.heap, slotsUsed := s₂.slotsUsed } : State).setVm s₂.vm).setTop { g with pc := g.pc + len₂, stack := v.toList ++ g.stack } := by
      refine e3.trans ?_
      rw [hf₂, State.calling_eq h.top, State.setFrames_setFrames, State.setTop_of_frames _ hr', hr]
      rfl
    have hsame : U.sameButNew ({ U with heap := s₂.heap, slotsUsed := s₂.slotsUsed } : State) L mc ms := by
      refine ⟨?_, q2, q3, q4, q5, q6⟩
      obtain ⟨t, ht, -⟩ := State.frames_cons hr
      show ({ U with heap := s₂.heap, slotsUsed := s₂.slotsUsed } : State) = { U.setFrames U.frames with heap := s₂.heap, slotsUsed := s₂.slotsUsed }
      rw [State.setFrames_self ht]
    subst hg
    refine Or.inl ⟨v, ⟨(({ U with heap := s₂.heap, slotsUsed := s₂.slotsUsed } : State).setVm s₂.vm), Ls ++ L, c0 + mc, s0 + ms⟩,
      ⟨X.admits, X.cas, X.clock, X.frames, X.room, X.hears, X.method, X.code, (X.here.setHeapUsed s₂.heap s₂.slotsUsed).setVm hW'.alike, X.tail, State.WarmedH.trans X.warmed hW', X.limits, X.bytes, X.same.trans (hsame.setVm s.vm)⟩,
      ⟨g, mk, s₂, L, rfl, rfl, hqc, rfl, hL, rfl, rfl⟩, ?_⟩
    show Steps p.tables e below _ ((({ U with heap := s₂.heap, slotsUsed := s₂.slotsUsed } : State).setVm s₂.vm).setTop { g with pc := g.pc + len₂, stack := v.toList ++ g.stack })
    rw [← hs₂]
    exact hsteps
  · obtain ⟨e2, q2, q3, q4, q5, q6⟩ := id hsm
    have e3 : s₂ = ({ (U.calling g mk a).setFrames s₂.frames with heap := s₂.heap, slotsUsed := s₂.slotsUsed } : State).setVm s₂.vm := by
      have : s₂ = ({ s₂ with vm := (U.calling g mk a).vm } : State).setVm s₂.vm := rfl
      rw [e2] at this
      exact this
    have hf₂ : s₂.frames = .throwing q :: .java g :: U.frames.tail := hend
    have hW' : U.WarmedH s₂.vm := hW₂
    have hs₂ : s₂ = ((({ U with heap := s₂.heap, slotsUsed := s₂.slotsUsed } : State).setVm s₂.vm).setTop g).pushFrame (.throwing q) := by
      refine e3.trans ?_
      rw [hf₂, State.calling_eq h.top, State.setFrames_setFrames, State.pushFrame, State.frames_setTop _ hr', State.setTop_of_frames _ hr', State.setFrames_setFrames, hr]
      rfl
    have hsame : U.sameButNew ({ U with heap := s₂.heap, slotsUsed := s₂.slotsUsed } : State) L mc ms := by
      refine ⟨?_, q2, q3, q4, q5, q6⟩
      obtain ⟨t, ht, -⟩ := State.frames_cons hr
      show ({ U with heap := s₂.heap, slotsUsed := s₂.slotsUsed } : State) = { U.setFrames U.frames with heap := s₂.heap, slotsUsed := s₂.slotsUsed }
      rw [State.setFrames_self ht]
    subst hg
    refine Or.inr ⟨q, ⟨(({ U with heap := s₂.heap, slotsUsed := s₂.slotsUsed } : State).setVm s₂.vm), Ls ++ L, c0 + mc, s0 + ms⟩,
      ⟨X.admits, X.cas, X.clock, X.frames, X.room, X.hears, X.method, X.code, (X.here.setHeapUsed s₂.heap s₂.slotsUsed).setVm hW'.alike, X.tail, State.WarmedH.trans X.warmed hW', X.limits, X.bytes, X.same.trans (hsame.setVm s.vm)⟩,
      ⟨g, mk, s₂, L, E, ce, rfl, rfl, hx, hce, hcv, hcl, rfl, hL, rfl, rfl⟩, ?_⟩
    show Steps p.tables e below _ (((({ U with heap := s₂.heap, slotsUsed := s₂.slotsUsed } : State).setVm s₂.vm).setTop g).pushFrame (.throwing q))
    rw [← hs₂]
    exact hsteps
end
variable {p : Program} {l : Launch} {e : Env} {R : Room} {s : State} {m : MethodId} {args : Array Value} {below : List Frame} {meth : Method} {c : Code} {T : State} {H : Heap} {locs : List Loc} {cells slots : Nat}
theorem vx_callVX (X : Stand p l e R s m args below meth c T locs cells slots) (hexec : p.tables.exec = Jvm.exec) {own C : String} {index : Nat} {y : MethodName} {bytes : ByteArray} {maxL : Nat} {ret : Option FieldType} {hh : List (Nat × Nat × Nat × Nat)}
    (hown : s.vm.findClass own = some m.cls) (hlink : (Cond.methodLink own index y).before args s = true) (hinst : (Cond.instanceMethod y).before args s = true) (hsel : (Cond.selects C y y).before args s = true)
    (hcode : (Cond.codeWith y bytes maxL ret hh).before args s = true) (hy : y.cls ≠ "java/lang/invoke/MethodHandle" ∧ y.cls ≠ "java/lang/invoke/VarHandle")
    {W9 : Nat} {Pre : Pt → Array Value → Prop} {Post : Pt → Array Value → Option Value → Pt → Prop} {PostX : Pt → Array Value → Addr → Pt → Prop} (hK : vx_Back l R p e below s args y 3 W9 Pre Post PostX)
    {b : Addr} {cellB : Cell} (hcell : T.heap[b]? = some cellB) (hobj : cellB.vm.isStatics = false) (hcls : s.vm.findClass C = some cellB.cls)
    {g : JFrame} (hg : g.method = m) (hsize : g.locals.size = c.maxLocals) {argsL rest : List Value} (hlen : ∀ sig, parseMethodDescriptor y.desc = some sig → argsL.length = sig.parameters.length)
    (hstack : g.stack = argsL.reverse ++ .ref b :: rest) (hW : 2 * g.monitorRoom + (rest.map fun v => v.category).sum ≤ W9) (hdg : decode c.code g.pc = .ok (.invokevirtual index, 3))
    (hpre : ∀ vm₁, s.WarmedH vm₁ → Pre ⟨T.setVm vm₁, locs, cells, slots⟩ (Value.ref b :: argsL).toArray) :
    (∃ (v : Option Value) (vm₁ : Vm) (B : Pt), s.WarmedH vm₁ ∧ Stand p l e R s m args below meth c B.U B.locs B.cells B.slots ∧ Post ⟨T.setVm vm₁, locs, cells, slots⟩ (Value.ref b :: argsL).toArray v B ∧
      ∀ target, Steps p.tables e below (B.U.setTop { g with pc := g.pc + 3, stack := v.toList ++ rest }) target → Steps p.tables e below (T.setTop g) target) ∨
    (∃ (q : Addr) (vm₁ : Vm) (B : Pt), s.WarmedH vm₁ ∧ Stand p l e R s m args below meth c B.U B.locs B.cells B.slots ∧ PostX ⟨T.setVm vm₁, locs, cells, slots⟩ (Value.ref b :: argsL).toArray q B ∧
      Steps p.tables e below (T.setTop g) ((B.U.setTop { g with stack := rest }).pushFrame (.throwing q))) := by
  obtain ⟨mk, methM, hnamed, hmethM, hstM, habM⟩ := Cond.instanceMethod_spec hinst
  obtain ⟨m8, methM', cM, hn8, hmethM', -, -, -, -, -, -, hsigM⟩ := Cond.codeWith_spec hcode
  cases Option.some.inj (hn8.symm.trans hnamed)
  cases hmethM.symm.trans hmethM'
  obtain ⟨c2, r2, m2, q1, q2, q3, q4, kP, hkP, hkPi⟩ := Cond.selects_spec hsel
  cases hcls.symm.trans q1
  cases (State.methodFound?_of_named hnamed hy).symm.trans q2
  cases hnamed.symm.trans q3
  have hselP : selectMethod e.platform s.vm cellB.cls mk = .method mk := by rw [Launch.admits_selectMethod X.admits]; exact q4
  obtain ⟨vm₁, X₁, hstep₁⟩ := X.invokevirtual hexec hown hlink hnamed hmethM hstM hkP hkPi hy (a := b) (cell := cellB) hcell
    (fun z h => by rw [h] at hobj; cases hobj) hselP hmethM habM hkP hkPi (g := g) hg (argsL := argsL) (rest := rest) (hlen _ hsigM) hstack hdg
  rcases hK m meth c ⟨T.setVm vm₁, locs, cells, slots⟩ { g with stack := rest } (.invokevirtual index) mk (Value.ref b :: argsL).toArray X₁ hg hsize hdg hW (X₁.named hnamed) (hpre vm₁ X₁.warmed) with ⟨v, B, X', hpost, hsteps⟩ | ⟨q, B, X', hpost, hsteps⟩
  · exact Or.inl ⟨v, vm₁, B, X₁.warmed, X', hpost, fun target h => hstep₁ _ fun acts => by rw [doInvoke_state]; exact hsteps.trans h⟩
  · exact Or.inr ⟨q, vm₁, B, X₁.warmed, X', hpost, hstep₁ _ fun acts => by rw [doInvoke_state]; exact hsteps⟩
theorem vx_callSX (X : Stand p l e R s m args below meth c T locs cells slots) (hexec : p.tables.exec = Jvm.exec) {own : String} {index : Nat} {y : MethodName} {bytes : ByteArray} {maxL : Nat} {ret : Option FieldType} {hh : List (Nat × Nat × Nat × Nat)}
    (hown : s.vm.findClass own = some m.cls) (hlink : (Cond.methodLink own index y).before args s = true) (hstat : (Cond.static y).before args s = true) (hinit : (Cond.initialized y.cls).before args s = true)
    (hcode : (Cond.codeWith y bytes maxL ret hh).before args s = true) (hy : y.cls ≠ "java/lang/invoke/MethodHandle" ∧ y.cls ≠ "java/lang/invoke/VarHandle")
    {W9 : Nat} {Pre : Pt → Array Value → Prop} {Post : Pt → Array Value → Option Value → Pt → Prop} {PostX : Pt → Array Value → Addr → Pt → Prop} (hK : vx_Back l R p e below s args y 3 W9 Pre Post PostX)
    {g : JFrame} (hg : g.method = m) (hsize : g.locals.size = c.maxLocals) {argsL rest : List Value} (hlen : ∀ sig, parseMethodDescriptor y.desc = some sig → argsL.length = sig.parameters.length)
    (hstack : g.stack = argsL.reverse ++ rest) (hW : 2 * g.monitorRoom + (rest.map fun v => v.category).sum ≤ W9) (hdg : decode c.code g.pc = .ok (.invokestatic index, 3))
    (hpre : ∀ vm₁, s.WarmedH vm₁ → Pre ⟨T.setVm vm₁, locs, cells, slots⟩ argsL.toArray) :
    (∃ (v : Option Value) (vm₁ : Vm) (B : Pt), s.WarmedH vm₁ ∧ Stand p l e R s m args below meth c B.U B.locs B.cells B.slots ∧ Post ⟨T.setVm vm₁, locs, cells, slots⟩ argsL.toArray v B ∧
      ∀ target, Steps p.tables e below (B.U.setTop { g with pc := g.pc + 3, stack := v.toList ++ rest }) target → Steps p.tables e below (T.setTop g) target) ∨
    (∃ (q : Addr) (vm₁ : Vm) (B : Pt), s.WarmedH vm₁ ∧ Stand p l e R s m args below meth c B.U B.locs B.cells B.slots ∧ PostX ⟨T.setVm vm₁, locs, cells, slots⟩ argsL.toArray q B ∧
      Steps p.tables e below (T.setTop g) ((B.U.setTop { g with stack := rest }).pushFrame (.throwing q))) := by
  obtain ⟨mk, methM, cM, hnamed, hmethM, -, -, -, -, -, -, hsigM⟩ := Cond.codeWith_spec hcode
  have hstatic : methM.isStatic = true := Cond.static_spec hnamed hmethM hstat
  obtain ⟨kP, hkP, -⟩ := className_of_methodNamed hnamed
  have hinitP : kP.init = .initialized := Cond.initialized_spec (findClass_of_methodNamed hnamed) hkP hinit
  obtain ⟨vm₁, X₁, hstep₁⟩ := X.invokestatic hexec hown hlink hnamed hmethM hstatic hkP hinitP hy (g := g) hg (argsL := argsL) (rest := rest) (hlen _ hsigM) hstack hdg
  rcases hK m meth c ⟨T.setVm vm₁, locs, cells, slots⟩ { g with stack := rest } (.invokestatic index) mk argsL.toArray X₁ hg hsize hdg hW (X₁.named hnamed) (hpre vm₁ X₁.warmed) with ⟨v, B, X', hpost, hsteps⟩ | ⟨q, B, X', hpost, hsteps⟩
  · exact Or.inl ⟨v, vm₁, B, X₁.warmed, X', hpost, fun target h => hstep₁ _ fun acts => by rw [doInvoke_state]; exact hsteps.trans h⟩
  · exact Or.inr ⟨q, vm₁, B, X₁.warmed, X', hpost, hstep₁ _ fun acts => by rw [doInvoke_state]; exact hsteps⟩
theorem vx_callVW (X : Stand p l e R s m args below meth c T locs cells slots) (hexec : p.tables.exec = Jvm.exec) {own C : String} {index : Nat} {y : MethodName} {bytes : ByteArray} {maxL : Nat} {ret : Option FieldType} {hh : List (Nat × Nat × Nat × Nat)}
    (hown : s.vm.findClass own = some m.cls) (hlink : (Cond.methodLink own index y).before args s = true) (hinst : (Cond.instanceMethod y).before args s = true) (hsel : (Cond.selects C y y).before args s = true)
    (hcode : (Cond.codeWith y bytes maxL ret hh).before args s = true) (hy : y.cls ≠ "java/lang/invoke/MethodHandle" ∧ y.cls ≠ "java/lang/invoke/VarHandle")
    {W9 : Nat} {Pre : Pt → Array Value → Prop} {Post : Pt → Array Value → Option Value → Pt → Prop} (hK : Back l R p e below s args y 3 W9 Pre Post)
    {b : Addr} {cellB : Cell} (hcell : T.heap[b]? = some cellB) (hobj : cellB.vm.isStatics = false) (hcls : s.vm.findClass C = some cellB.cls)
    {g : JFrame} (hg : g.method = m) (hsize : g.locals.size = c.maxLocals) {argsL rest : List Value} (hlen : ∀ sig, parseMethodDescriptor y.desc = some sig → argsL.length = sig.parameters.length)
    (hstack : g.stack = argsL.reverse ++ .ref b :: rest) (hW : 2 * g.monitorRoom + (rest.map fun v => v.category).sum ≤ W9) (hdg : decode c.code g.pc = .ok (.invokevirtual index, 3))
    (hpre : ∀ vm₁, s.WarmedH vm₁ → Pre ⟨T.setVm vm₁, locs, cells, slots⟩ (Value.ref b :: argsL).toArray) :
    ∃ (v : Option Value) (vm₁ : Vm) (B : Pt), s.WarmedH vm₁ ∧ Stand p l e R s m args below meth c B.U B.locs B.cells B.slots ∧ Post ⟨T.setVm vm₁, locs, cells, slots⟩ (Value.ref b :: argsL).toArray v B ∧
      ∀ target, Steps p.tables e below (B.U.setTop { g with pc := g.pc + 3, stack := v.toList ++ rest }) target → Steps p.tables e below (T.setTop g) target := by
  obtain ⟨mk, methM, hnamed, hmethM, hstM, habM⟩ := Cond.instanceMethod_spec hinst
  obtain ⟨m8, methM', cM, hn8, hmethM', -, -, -, -, -, -, hsigM⟩ := Cond.codeWith_spec hcode
  cases Option.some.inj (hn8.symm.trans hnamed)
  cases hmethM.symm.trans hmethM'
  obtain ⟨c2, r2, m2, q1, q2, q3, q4, kP, hkP, hkPi⟩ := Cond.selects_spec hsel
  cases hcls.symm.trans q1
  cases (State.methodFound?_of_named hnamed hy).symm.trans q2
  cases hnamed.symm.trans q3
  have hselP : selectMethod e.platform s.vm cellB.cls mk = .method mk := by rw [Launch.admits_selectMethod X.admits]; exact q4
  obtain ⟨vm₁, X₁, hstep₁⟩ := X.invokevirtual hexec hown hlink hnamed hmethM hstM hkP hkPi hy (a := b) (cell := cellB) hcell
    (fun z h => by rw [h] at hobj; cases hobj) hselP hmethM habM hkP hkPi (g := g) hg (argsL := argsL) (rest := rest) (hlen _ hsigM) hstack hdg
  obtain ⟨v, B, X', hpost, hsteps⟩ := hK m meth c ⟨T.setVm vm₁, locs, cells, slots⟩ { g with stack := rest } (.invokevirtual index) mk (Value.ref b :: argsL).toArray X₁ hg hsize hdg hW (X₁.named hnamed) (hpre vm₁ X₁.warmed)
  exact ⟨v, vm₁, B, X₁.warmed, X', hpost, fun target h => hstep₁ _ fun acts => by rw [doInvoke_state]; exact hsteps.trans h⟩
abbrev vx_CVW (R : Room) (s : State) (args : Array Value) (own C : String) (index : Nat) (y : MethodName) (bytes : ByteArray) (maxL : Nat) (ret : Option FieldType) (hh : List (Nat × Nat × Nat × Nat)) (ws : List Cond) (rm : Room) (mc ms n : Nat) : Prop :=
  (rm.cells = mc ∧ rm.slots = ms ∧ rm.frames + 1 ≤ R.frames ∧ 8 + (maxL + 11) + rm.locals ≤ R.locals ∧ (∀ w ∈ ws, ∀ (a' : Array Value) (U : State), s.WarmedH U.vm → w.before a' U = true) ∧ Cond.codeWith y bytes maxL ret hh ∈ ws) ∧
  (Cond.codeWith y bytes maxL ret hh).before args s = true ∧ (Cond.initialized y.cls).before args s = true ∧ (y.cls ≠ "java/lang/invoke/MethodHandle" ∧ y.cls ≠ "java/lang/invoke/VarHandle") ∧
  (∀ sig, parseMethodDescriptor y.desc = some sig → n = sig.parameters.length) ∧ (Cond.methodLink own index y).before args s = true ∧ (Cond.instanceMethod y).before args s = true ∧ (Cond.selects C y y).before args s = true
theorem vx_cwVW {own C : String} {index maxL mc ms : Nat} {y : MethodName} {bytes : ByteArray} {ret : Option FieldType} {hh : List (Nat × Nat × Nat × Nat)} {Ts ws ws' : List Cond} {rm : Room} (n : Nat) (ht : ∀ w ∈ Ts, w.before args s = true) (hT : GoodIn Ts (wsV own index C y ws)) (hw : ws = Cond.codeWith y bytes maxL ret hh :: ws') (hrc : rm.cells = mc) (hrs : rm.slots = ms)
    (hd : y.cls = C ∧ y.cls ≠ "java/lang/invoke/MethodHandle" ∧ y.cls ≠ "java/lang/invoke/VarHandle" ∧ (parseMethodDescriptor y.desc).map (fun d => d.parameters.length) = some n) (hR : rm.frames + 1 ≤ R.frames ∧ 8 + (maxL + 11) + rm.locals ≤ R.locals) :
    vx_CVW R s args own C index y bytes maxL ret hh ws rm mc ms n := by
  obtain ⟨hC, hd⟩ := hd
  subst hC
  have ok : ∀ w ∈ wsV own index y.cls y ws, w.before args s = true := fun w h => ht w (hT w h).1
  have hG : GoodIn Ts ws := fun w h => hT w (by unfold wsV; exact List.mem_append_right _ h)
  have hc : Cond.codeWith y bytes maxL ret hh ∈ ws := by rw [hw]; exact List.mem_cons_self
  refine ⟨⟨hrc, hrs, hR.1, hR.2, pay_in ht hG, hc⟩, ht _ (hG _ hc).1, ok _ (by simp [wsV]), ⟨hd.1, hd.2.1⟩, fun sig h => ?_, ok _ (by simp [wsV]), ok _ (by simp [wsV]), ok _ (by simp [wsV])⟩
  have h2 := hd.2.2
  rw [h] at h2
  exact (Option.some.inj h2).symm
theorem vx_runVW {y : MethodName} {bytes cc : ByteArray} {maxL nL mc ms n index : Nat} {ret : Option FieldType} {hh : List (Nat × Nat × Nat × Nat)} {ws : List Cond} {rm : Room} {Pc : Array Value → State → Prop} {Qc : Array Value → State → Outcome → State → Prop} {free : Addr → Prop} {Ts : List Cond} {own C : String} {b : Addr} {As rest : List Value} {g : JFrame}
    (S : CallFix p m c cc nL s args Ts own) (hM : Met l y ws rm Pc Qc mc ms free) (cw : vx_CVW R s args own C index y bytes maxL ret hh ws rm mc ms n) (hp : PreV s H C b Pc As)
    (hg : g.method = m) (hn : As.length = n) (hsize : g.locals.size = nL) (hstack : g.stack = As.reverse ++ .ref b :: rest) (hW : 2 * g.monitorRoom + (rest.map fun v => v.category).sum ≤ 8) (hdg : decode cc g.pc = .ok (.invokevirtual index, 3)) (hf : cells + mc ≤ R.cells ∧ slots + ms ≤ R.slots) :
    va_Run p l e R s m args below meth c H locs cells slots mc ms g rest (Qc (Value.ref b :: As).toArray) free := by
  obtain ⟨⟨hrc, hrs, hfr, hlo, hws, hcw⟩, hcode, hini, hy, hlen, hl, hin, hse⟩ := cw
  have hK : Back l R p e below s args y 3 8 (PreOf R mc ms Pc) (PostOf Qc mc ms free) := va_backW (hh := hh) (bytes := bytes) (maxL := maxL) (ret := ret) hM hp.1 hrc hrs hfr hlo hws hcw (fun a' U hW => word_at hW (Or.inl (by first | rfl | simp [Cond.onTables, Cond.keeps, Cond.steady])) hini)
  obtain ⟨hx, hb, hml, ho, -⟩ := S
  obtain ⟨-, ⟨cellB, hcB, hoB, hclB⟩, hPc⟩ := hp
  intro T hT X
  obtain ⟨v, vm₁, ⟨U', l2, c2, s2⟩, hW₁, X', ⟨g', mk, t, L, e1, e2, hq, h1, hL, h2, h3⟩, st⟩ := vx_callVW X hx (C := C) (hh := hh) (bytes := bytes) (maxL := maxL) (ret := ret) ho hl hin hse hcode hy hK (by rw [hT]; exact hcB) hoB hclB hg (hsize.trans hml.symm) (argsL := As) (rest := rest) (fun sig h => hn.trans (hlen sig h)) hstack hW (by rw [hb]; exact hdg)
    (fun vm₁ hW₁ => ⟨hf.1, hf.2, hPc (T.setVm vm₁) hT hW₁⟩)
  dsimp only [Pt.U, Pt.locs, Pt.cells, Pt.slots] at X' e1 e2 h1 h2 h3 st
  subst h1; subst h2; subst h3
  exact ⟨v, (T.setVm vm₁).calling g' mk (Value.ref b :: As).toArray, t, U', L, hT, X', hL, e1, e2, hq, st⟩
section
variable {y : MethodName} {bytes cc : ByteArray} {maxL nL mc ms n index : Nat} {ret : Option FieldType} {ws : List Cond} {rm : Room} {Pc : Array Value → State → Prop} {Qc : Array Value → State → Outcome → State → Prop} {XC : String → State → State → Prop} {free : Addr → Prop} {Ts : List Cond} {own C : String} {b : Addr} {As rest : List Value} {g : JFrame}
theorem vx_runVX {hh : List (Nat × Nat × Nat × Nat)} (S : CallFix p m c cc nL s args Ts own) (hM : vx_Met l y ws rm Pc Qc XC mc ms free) (cw : vx_CVW R s args own C index y bytes maxL ret hh ws rm mc ms n) (hp : PreV s H C b Pc As)
    (hg : g.method = m) (hn : As.length = n) (hsize : g.locals.size = nL) (hstack : g.stack = As.reverse ++ .ref b :: rest) (hW : 2 * g.monitorRoom + (rest.map fun v => v.category).sum ≤ 8) (hdg : decode cc g.pc = .ok (.invokevirtual index, 3)) (hf : cells + mc ≤ R.cells ∧ slots + ms ≤ R.slots) :
    vx_Run p l e R s m args below meth c H locs cells slots mc ms g rest (Qc (Value.ref b :: As).toArray) XC free := by
  obtain ⟨⟨hrc, hrs, hfr, hlo, hws, hcw⟩, hcode, hini, hy, hlen, hl, hin, hse⟩ := cw
  have hK : vx_Back l R p e below s args y 3 8 (PreOf R mc ms Pc) (PostOf Qc mc ms free) (vx_Post XC mc ms free) := vx_backW (hh := hh) (bytes := bytes) (maxL := maxL) (ret := ret) hM hp.1 hrc hrs hfr hlo hws hcw (fun a' U hW => word_at hW (Or.inl (by first | rfl | simp [Cond.onTables, Cond.keeps, Cond.steady])) hini)
  obtain ⟨hx, hb, hml, ho, -⟩ := S
  obtain ⟨-, ⟨cellB, hcB, hoB, hclB⟩, hPc⟩ := hp
  intro T hT X
  rcases vx_callVX X hx (C := C) (hh := hh) (bytes := bytes) (maxL := maxL) (ret := ret) ho hl hin hse hcode hy hK (by rw [hT]; exact hcB) hoB hclB hg (hsize.trans hml.symm) (argsL := As) (rest := rest) (fun sig h => hn.trans (hlen sig h)) hstack hW (by rw [hb]; exact hdg)
    (fun vm₁ hW₁ => ⟨hf.1, hf.2, hPc (T.setVm vm₁) hT hW₁⟩) with ⟨v, vm₁, ⟨U', l2, c2, s2⟩, hW₁, X', ⟨g', mk, t, L, e1, e2, hq, h1, hL, h2, h3⟩, st⟩ | ⟨q, vm₁, ⟨U', l2, c2, s2⟩, hW₁, X', ⟨g', mk, t, L, E, ce, e1, e2, hq, hce, hcv, hcl, h1, hL, h2, h3⟩, st⟩
  · dsimp only [Pt.U, Pt.locs, Pt.cells, Pt.slots] at X' e1 e2 h1 h2 h3 st
    subst h1; subst h2; subst h3
    exact Or.inl ⟨v, (T.setVm vm₁).calling g' mk (Value.ref b :: As).toArray, t, U', L, hT, X', hL, e1, e2, hq, st⟩
  · dsimp only [Pt.U, Pt.locs, Pt.cells, Pt.slots] at X' e1 e2 h1 h2 h3 st hcl
    subst h1; subst h2; subst h3
    exact Or.inr ⟨q, (T.setVm vm₁).calling g' mk (Value.ref b :: As).toArray, t, U', L, E, ce, hT, X', hL, e1, e2, hq, hce, hcv, vx_cls hW₁ hcl, st⟩
theorem vx_runSX {hh : List (Nat × Nat × Nat × Nat)} (S : CallFix p m c cc nL s args Ts own) (hM : vx_Met l y ws rm Pc Qc XC mc ms free) (cw : vx_CSW R s args own index y bytes maxL ret hh ws rm mc ms n) (hp : PreS s H Pc As)
    (hg : g.method = m) (hn : As.length = n) (hsize : g.locals.size = nL) (hstack : g.stack = As.reverse ++ rest) (hW : 2 * g.monitorRoom + (rest.map fun v => v.category).sum ≤ 8) (hdg : decode cc g.pc = .ok (.invokestatic index, 3)) (hf : cells + mc ≤ R.cells ∧ slots + ms ≤ R.slots) :
    vx_Run p l e R s m args below meth c H locs cells slots mc ms g rest (Qc As.toArray) XC free := by
  obtain ⟨⟨hrc, hrs, hfr, hlo, hws, hcw⟩, hcode, hini, hy, hlen, hl, hstt⟩ := cw
  have hK : vx_Back l R p e below s args y 3 8 (PreOf R mc ms Pc) (PostOf Qc mc ms free) (vx_Post XC mc ms free) := vx_backW (hh := hh) (bytes := bytes) (maxL := maxL) (ret := ret) hM hp.1 hrc hrs hfr hlo hws hcw (fun a' U hW => word_at hW (Or.inl (by first | rfl | simp [Cond.onTables, Cond.keeps, Cond.steady])) hini)
  obtain ⟨hx, hb, hml, ho, -⟩ := S
  intro T hT X
  rcases vx_callSX X hx (hh := hh) (bytes := bytes) (maxL := maxL) (ret := ret) ho hl hstt hini hcode hy hK hg (hsize.trans hml.symm) (argsL := As) (rest := rest) (fun sig h => hn.trans (hlen sig h)) hstack hW (by rw [hb]; exact hdg)
    (fun vm₁ hW₁ => ⟨hf.1, hf.2, hp.2 (T.setVm vm₁) hT hW₁⟩) with ⟨v, vm₁, ⟨U', l2, c2, s2⟩, hW₁, X', ⟨g', mk, t, L, e1, e2, hq, h1, hL, h2, h3⟩, st⟩ | ⟨q, vm₁, ⟨U', l2, c2, s2⟩, hW₁, X', ⟨g', mk, t, L, E, ce, e1, e2, hq, hce, hcv, hcl, h1, hL, h2, h3⟩, st⟩
  · dsimp only [Pt.U, Pt.locs, Pt.cells, Pt.slots] at X' e1 e2 h1 h2 h3 st
    subst h1; subst h2; subst h3
    exact Or.inl ⟨v, (T.setVm vm₁).calling g' mk As.toArray, t, U', L, hT, X', hL, e1, e2, hq, st⟩
  · dsimp only [Pt.U, Pt.locs, Pt.cells, Pt.slots] at X' e1 e2 h1 h2 h3 st hcl
    subst h1; subst h2; subst h3
    exact Or.inr ⟨q, (T.setVm vm₁).calling g' mk As.toArray, t, U', L, E, ce, hT, X', hL, e1, e2, hq, hce, hcv, vx_cls hW₁ hcl, st⟩
end
end VXH
theorem vx_ofWH {l : Launch} {y : MethodName} {ws ws' : List Cond} {rm : Room} {Pc : Array Value → State → Prop} {Qc : Array Value → State → Outcome → State → Prop} {XC : String → State → State → Prop} {mc ms : Nat} {free : Addr → Prop} {cc : ByteArray} {maxL : Nat} {ret : Option FieldType} {hh : List (Nat × Nat × Nat × Nat)}
    (hy : plainName y.cls = true) (hw : ws = Cond.codeWith y cc maxL ret hh :: ws')
    (body : ∀ p e s m args below meth c s₁, BodyLoose p l y (headSpec ws rm) cc maxL ret e s m args below meth c s₁ → c.maxLocals = maxL → Pc args s →
      W p l e (headSpec ws rm).room s m args below meth c s.heap [] 0 0 (vx_MQ below Qc XC args s mc ms free) (entryFrame m args maxL)) : vx_Met l y ws rm Pc Qc XC mc ms free := by
  refine MetFree.of_bodyS (code := cc) (maxLocals := maxL) (ret := ret) hy ?_ ?_
  · intro args s m h hn
    obtain ⟨m9, meth, c, hn9, h1, h2, h3, h4, -, h5, h6, -⟩ := Cond.codeWith_spec (atoms_spec (ws := ws) h _ (by rw [hw]; exact List.mem_cons_self))
    cases hn.symm.trans hn9
    exact ⟨meth, c, h1, h2, h3, h4, h5, h6⟩
  · intro p e s m args below meth c s₁ B hml hP _
    have hh0 : s₁.heap = s.heap := by rw [B.state]; rfl
    obtain ⟨t, a1, o, b1, b2, b3⟩ := body p e s m args below meth c s₁ B hml hP s₁ hh0 (Stand.of_body B)
    exact ⟨t, o, a1, b1, b2, b3⟩
/-! ===== END ===== -/
/-! ===== BEGIN a constructor that throws (launches without stack traces) ===== -/
section VXIA
variable {p : Program} {l : Launch} {e : Env} {R : Room} {s : State} {m : MethodId} {args : Array Value} {below : List Frame} {meth : Method} {c : Code} {T : State} {locs : List Loc} {cells slots : Nat}
theorem vx_callI (X : Stand p l e R s m args below meth c T locs cells slots) (hexec : p.tables.exec = Jvm.exec) {own : String} {index : Nat} {y : MethodName} {bytes : ByteArray} {maxL : Nat}
    (hown : s.vm.findClass own = some m.cls) (hy1 : y.name = "<init>") (hlink : (Cond.methodLink own index y).before args s = true) (hinst : (Cond.instanceMethod y).before args s = true)
    (hcode : (Cond.code y bytes maxL none).before args s = true) (hy : y.cls ≠ "java/lang/invoke/MethodHandle" ∧ y.cls ≠ "java/lang/invoke/VarHandle")
    {W9 : Nat} {Pre : Pt → Array Value → Prop} {Post : Pt → Array Value → Option Value → Pt → Prop} {PostX : Pt → Array Value → Addr → Pt → Prop} (hK : vx_Back l R p e below s args y 3 W9 Pre Post PostX)
    {g : JFrame} (hg : g.method = m) (hsize : g.locals.size = c.maxLocals) {a : Addr} {argsL rest : List Value} (hlen : ∀ sig, parseMethodDescriptor y.desc = some sig → argsL.length = sig.parameters.length)
    (hstack : g.stack = argsL.reverse ++ .ref a :: rest) (hW : 2 * g.monitorRoom + (rest.map fun v => v.category).sum ≤ W9) (hdg : decode c.code g.pc = .ok (.invokespecial index, 3))
    (hpre : ∀ vm₁, s.WarmedH vm₁ → Pre ⟨T.setVm vm₁, locs, cells, slots⟩ (Value.ref a :: argsL).toArray) :
    (∃ (v : Option Value) (vm₁ : Vm) (B : Pt), s.WarmedH vm₁ ∧ Stand p l e R s m args below meth c B.U B.locs B.cells B.slots ∧ Post ⟨T.setVm vm₁, locs, cells, slots⟩ (Value.ref a :: argsL).toArray v B ∧
      ∀ target, Steps p.tables e below (B.U.setTop { g with pc := g.pc + 3, stack := v.toList ++ rest }) target → Steps p.tables e below (T.setTop g) target) ∨
    (∃ (q : Addr) (vm₁ : Vm) (B : Pt), s.WarmedH vm₁ ∧ Stand p l e R s m args below meth c B.U B.locs B.cells B.slots ∧ PostX ⟨T.setVm vm₁, locs, cells, slots⟩ (Value.ref a :: argsL).toArray q B ∧
      Steps p.tables e below (T.setTop g) ((B.U.setTop { g with stack := rest }).pushFrame (.throwing q))) := by
  subst hg
  have hpl : e.platform.magicAccessors = ({} : Platform).magicAccessors := by rw [X.admits.platform]
  obtain ⟨mk, methM, cM, kP, vm₁, hnamed, hmethM, hcodeM, -, hlocalsM, -, hkP, -, hW₁, hstep₁⟩ := Steps.initColdArgs (e := e) X.here hexec X.warmed hpl hown hy1 hy hlink hinst hcode (f := g) rfl hlen hstack hdg
  have X₁ := X.noted hW₁
  rcases hK g.method meth c ⟨T.setVm vm₁, locs, cells, slots⟩ { g with stack := rest } (.invokespecial index) mk (Value.ref a :: argsL).toArray X₁ rfl hsize hdg hW (X₁.named hnamed) (hpre vm₁ X₁.warmed) with ⟨v, B, X', hpost, hsteps⟩ | ⟨q, B, X', hpost, hsteps⟩
  · exact Or.inl ⟨v, vm₁, B, X₁.warmed, X', hpost, fun target h => hstep₁ _ fun acts => by rw [doInvoke_state]; exact hsteps.trans h⟩
  · exact Or.inr ⟨q, vm₁, B, X₁.warmed, X', hpost, hstep₁ _ fun acts => by rw [doInvoke_state]; exact hsteps⟩
end VXIA
section VXIB
variable {p : Program} {l : Launch} {e : Env} {R : Room} {s : State} {m : MethodId} {args : Array Value} {below : List Frame} {meth : Method} {c : Code} {H : Heap} {locs : List Loc} {cells slots : Nat}
variable {y : MethodName} {bytes cc : ByteArray} {maxL nL mc ms n index : Nat} {ret : Option FieldType} {ws : List Cond} {rm : Room} {Pc : Array Value → State → Prop} {Qc : Array Value → State → Outcome → State → Prop} {XC : String → State → State → Prop} {free : Addr → Prop} {Ts : List Cond} {own C : String} {b : Addr} {As rest : List Value} {g : JFrame}
theorem vx_runI (S : CallFix p m c cc nL s args Ts own) (hM : vx_Met l y ws rm Pc Qc XC mc ms free) (cw : CallB R s args own index y bytes maxL none ws rm mc ms n ∧ y.name = "<init>" ∧ (Cond.instanceMethod y).before args s = true) (hp : PreS s H Pc (.ref b :: As))
    (hg : g.method = m) (hn : As.length = n) (hsize : g.locals.size = nL) (hstack : g.stack = As.reverse ++ .ref b :: rest) (hW : 2 * g.monitorRoom + (rest.map fun v => v.category).sum ≤ 8) (hdg : decode cc g.pc = .ok (.invokespecial index, 3)) (hf : cells + mc ≤ R.cells ∧ slots + ms ≤ R.slots) :
    vx_Run p l e R s m args below meth c H locs cells slots mc ms g rest (Qc (Value.ref b :: As).toArray) XC free := by
  have hK : vx_Back l R p e below s args y 3 8 (PreOf R mc ms Pc) (PostOf Qc mc ms free) (vx_Post XC mc ms free) := vx_callBack cw.1 hM hp.1
  obtain ⟨⟨-, -, -, -, -, -, hcode, -, hy, hlen, hl⟩, hy1, hin⟩ := cw
  obtain ⟨hx, hb, hml, ho, -⟩ := S
  have hPc := hp.2
  intro T hT X
  rcases vx_callI X hx (bytes := bytes) (maxL := maxL) ho hy1 hl hin hcode hy hK hg (hsize.trans hml.symm) (a := b) (argsL := As) (rest := rest) (fun sig h => hn.trans (hlen sig h)) hstack hW (by rw [hb]; exact hdg)
    (fun vm₁ hW₁ => ⟨hf.1, hf.2, hPc (T.setVm vm₁) hT hW₁⟩) with ⟨v, vm₁, ⟨U', l2, c2, s2⟩, hW₁, X', ⟨g', mk, t, L, e1, e2, hq, h1, hL, h2, h3⟩, st⟩ | ⟨q, vm₁, ⟨U', l2, c2, s2⟩, hW₁, X', ⟨g', mk, t, L, E, ce, e1, e2, hq, hce, hcv, hcl, h1, hL, h2, h3⟩, st⟩
  · dsimp only [Pt.U, Pt.locs, Pt.cells, Pt.slots] at X' e1 e2 h1 h2 h3 st
    subst h1; subst h2; subst h3
    exact Or.inl ⟨v, (T.setVm vm₁).calling g' mk (Value.ref b :: As).toArray, t, U', L, hT, X', hL, e1, e2, hq, st⟩
  · dsimp only [Pt.U, Pt.locs, Pt.cells, Pt.slots] at X' e1 e2 h1 h2 h3 st hcl
    subst h1; subst h2; subst h3
    exact Or.inr ⟨q, (T.setVm vm₁).calling g' mk (Value.ref b :: As).toArray, t, U', L, E, ce, hT, X', hL, e1, e2, hq, hce, hcv, vx_cls hW₁ hcl, st⟩
end VXIB
/-! ===== END ===== -/
/-! ===== BEGIN a private constructor of a nest mate that throws ===== -/
section VXIC
variable {p : Program} {l : Launch} {e : Env} {R : Room} {s : State} {m : MethodId} {args : Array Value} {below : List Frame} {meth : Method} {c : Code} {T : State} {locs : List Loc} {cells slots : Nat}
theorem vx_callIN (X : Stand p l e R s m args below meth c T locs cells slots) (hexec : p.tables.exec = Jvm.exec) {own : String} {index : Nat} {host : String} {y : MethodName} {bytes : ByteArray} {maxL : Nat}
    (hown : s.vm.findClass own = some m.cls) (hy1 : y.name = "<init>") (hlink : (Cond.methodLinkNest own index y host).before args s = true) (hinst : (Cond.instanceMethod y).before args s = true)
    (hcode : (Cond.code y bytes maxL none).before args s = true) (hy : y.cls ≠ "java/lang/invoke/MethodHandle" ∧ y.cls ≠ "java/lang/invoke/VarHandle")
    {W9 : Nat} {Pre : Pt → Array Value → Prop} {Post : Pt → Array Value → Option Value → Pt → Prop} {PostX : Pt → Array Value → Addr → Pt → Prop} (hK : vx_Back l R p e below s args y 3 W9 Pre Post PostX)
    {g : JFrame} (hg : g.method = m) (hsize : g.locals.size = c.maxLocals) {a : Addr} {argsL rest : List Value} (hlen : ∀ sig, parseMethodDescriptor y.desc = some sig → argsL.length = sig.parameters.length)
    (hstack : g.stack = argsL.reverse ++ .ref a :: rest) (hW : 2 * g.monitorRoom + (rest.map fun v => v.category).sum ≤ W9) (hdg : decode c.code g.pc = .ok (.invokespecial index, 3))
    (hpre : ∀ vm₁, s.WarmedH vm₁ → Pre ⟨T.setVm vm₁, locs, cells, slots⟩ (Value.ref a :: argsL).toArray) :
    (∃ (v : Option Value) (vm₁ : Vm) (B : Pt), s.WarmedH vm₁ ∧ Stand p l e R s m args below meth c B.U B.locs B.cells B.slots ∧ Post ⟨T.setVm vm₁, locs, cells, slots⟩ (Value.ref a :: argsL).toArray v B ∧
      ∀ target, Steps p.tables e below (B.U.setTop { g with pc := g.pc + 3, stack := v.toList ++ rest }) target → Steps p.tables e below (T.setTop g) target) ∨
    (∃ (q : Addr) (vm₁ : Vm) (B : Pt), s.WarmedH vm₁ ∧ Stand p l e R s m args below meth c B.U B.locs B.cells B.slots ∧ PostX ⟨T.setVm vm₁, locs, cells, slots⟩ (Value.ref a :: argsL).toArray q B ∧
      Steps p.tables e below (T.setTop g) ((B.U.setTop { g with stack := rest }).pushFrame (.throwing q))) := by
  subst hg
  have hpl : e.platform.magicAccessors = ({} : Platform).magicAccessors := by rw [X.admits.platform]
  obtain ⟨mk, methM, cM, kP, vm₁, hnamed, hmethM, hcodeM, -, hlocalsM, -, hkP, -, hW₁, hstep₁⟩ := Steps.initColdArgsNest (e := e) X.here hexec X.warmed hpl hown hy1 hy hlink hinst hcode (f := g) rfl hlen hstack hdg
  have X₁ := X.noted hW₁
  rcases hK g.method meth c ⟨T.setVm vm₁, locs, cells, slots⟩ { g with stack := rest } (.invokespecial index) mk (Value.ref a :: argsL).toArray X₁ rfl hsize hdg hW (X₁.named hnamed) (hpre vm₁ X₁.warmed) with ⟨v, B, X', hpost, hsteps⟩ | ⟨q, B, X', hpost, hsteps⟩
  · exact Or.inl ⟨v, vm₁, B, X₁.warmed, X', hpost, fun target h => hstep₁ _ fun acts => by rw [doInvoke_state]; exact hsteps.trans h⟩
  · exact Or.inr ⟨q, vm₁, B, X₁.warmed, X', hpost, hstep₁ _ fun acts => by rw [doInvoke_state]; exact hsteps⟩
end VXIC
section VXID
variable {p : Program} {l : Launch} {e : Env} {R : Room} {s : State} {m : MethodId} {args : Array Value} {below : List Frame} {meth : Method} {c : Code} {H : Heap} {locs : List Loc} {cells slots : Nat}
theorem vx_runIN {y : MethodName} {bytes cc : ByteArray} {maxL nL mc ms n index : Nat} {ws : List Cond} {rm : Room} {Pc : Array Value → State → Prop} {Qc : Array Value → State → Outcome → State → Prop} {XC : String → State → State → Prop} {free : Addr → Prop} {Ts : List Cond} {own host : String} {b : Addr} {As rest : List Value} {g : JFrame}
    (S : CallFix p m c cc nL s args Ts own) (hM : vx_Met l y ws rm Pc Qc XC mc ms free) (cw : va_CN R s args own index y host bytes maxL none ws rm mc ms n ∧ y.name = "<init>" ∧ (Cond.instanceMethod y).before args s = true) (hp : PreS s H Pc (.ref b :: As))
    (hg : g.method = m) (hn : As.length = n) (hsize : g.locals.size = nL) (hstack : g.stack = As.reverse ++ .ref b :: rest) (hW : 2 * g.monitorRoom + (rest.map fun v => v.category).sum ≤ 8) (hdg : decode cc g.pc = .ok (.invokespecial index, 3)) (hf : cells + mc ≤ R.cells ∧ slots + ms ≤ R.slots) :
    vx_Run p l e R s m args below meth c H locs cells slots mc ms g rest (Qc (Value.ref b :: As).toArray) XC free := by
  obtain ⟨⟨⟨hrc, hrs, hfr, hlo, hws, hcw⟩, hcode, hini, hy, hlen, hl⟩, hx1, hx2⟩ := cw
  have hK : vx_Back l R p e below s args y 3 8 (PreOf R mc ms Pc) (PostOf Qc mc ms free) (vx_Post XC mc ms free) := vx_back (bytes := bytes) (maxL := maxL) (ret := none) hM hp.1 hrc hrs hfr hlo hws hcw (fun a' U hW => word_at hW (Or.inl (by first | rfl | simp [Cond.onTables, Cond.keeps, Cond.steady])) hini)
  obtain ⟨hx, hb, hml, ho, -⟩ := S
  have hPc := hp.2
  intro T hT X
  rcases vx_callIN X hx (bytes := bytes) (maxL := maxL) ho hx1 hl hx2 hcode hy hK hg (hsize.trans hml.symm) (a := b) (argsL := As) (rest := rest) (fun sig h => hn.trans (hlen sig h)) hstack hW (by rw [hb]; exact hdg)
    (fun vm₁ hW₁ => ⟨hf.1, hf.2, hPc (T.setVm vm₁) hT hW₁⟩) with ⟨v, vm₁, ⟨U', l2, c2, s2⟩, hW₁, X', ⟨g', mk, t, L, e1, e2, hq, h1, hL, h2, h3⟩, st⟩ | ⟨q, vm₁, ⟨U', l2, c2, s2⟩, hW₁, X', ⟨g', mk, t, L, E, ce, e1, e2, hq, hce, hcv, hcl, h1, hL, h2, h3⟩, st⟩
  · dsimp only [Pt.U, Pt.locs, Pt.cells, Pt.slots] at X' e1 e2 h1 h2 h3 st
    subst h1; subst h2; subst h3
    exact Or.inl ⟨v, (T.setVm vm₁).calling g' mk (Value.ref b :: As).toArray, t, U', L, hT, X', hL, e1, e2, hq, st⟩
  · dsimp only [Pt.U, Pt.locs, Pt.cells, Pt.slots] at X' e1 e2 h1 h2 h3 st hcl
    subst h1; subst h2; subst h3
    exact Or.inr ⟨q, (T.setVm vm₁).calling g' mk (Value.ref b :: As).toArray, t, U', L, E, ce, hT, X', hL, e1, e2, hq, hce, hcv, vx_cls hW₁ hcl, st⟩
end VXID
/-! ===== END ===== -/
/-! ===== BEGIN a method of a class above, found by the receiver, that may throw (follows va_callVU, va_runU of this kit) ===== -/
section
variable {p : Program} {l : Launch} {e : Env} {R : Room} {s : State} {m : MethodId} {args : Array Value} {below : List Frame} {meth : Method} {c : Code} {H : Heap} {locs : List Loc} {cells slots : Nat}
theorem vx_callVU {T : State} {locs : List Loc} {cells slots : Nat} (X : Stand p l e R s m args below meth c T locs cells slots) (hexec : p.tables.exec = Jvm.exec) {own C owner : String} {index : Nat} {x y : MethodName} {bytes : ByteArray} {maxL : Nat} {ret : Option FieldType}
    (hown : s.vm.findClass own = some m.cls) (hlink : (Cond.methodLink own index x).before args s = true) (hsame : (Cond.sameMethod x.cls owner x.name x.desc).before args s = true)
    (hd0 : va_Decl s ⟨owner, x.name, x.desc⟩) (howner : owner ≠ "java/lang/invoke/MethodHandle" ∧ owner ≠ "java/lang/invoke/VarHandle")
    (hsel : (Cond.selects C x y).before args s = true) (hinst : (Cond.instanceMethod y).before args s = true) (hcode : (Cond.code y bytes maxL ret).before args s = true)
    {W : Nat} {Pre : Pt → Array Value → Prop} {Post : Pt → Array Value → Option Value → Pt → Prop} {PostX : Pt → Array Value → Addr → Pt → Prop} (hK : vx_Back l R p e below s args y 3 W Pre Post PostX)
    {b : Addr} {cellB : Cell} (hcell : T.heap[b]? = some cellB) (hobj : cellB.vm.isStatics = false) (hcls : s.vm.findClass C = some cellB.cls)
    {g : JFrame} (hg : g.method = m) (hsize : g.locals.size = c.maxLocals) {argsL rest : List Value} (hlen : ∀ sig, parseMethodDescriptor x.desc = some sig → argsL.length = sig.parameters.length)
    (hstack : g.stack = argsL.reverse ++ .ref b :: rest) (hW : 2 * g.monitorRoom + (rest.map fun v => v.category).sum ≤ W) (hdg : decode c.code g.pc = .ok (.invokevirtual index, 3))
    (hpre : ∀ vm₁, s.WarmedH vm₁ → Pre ⟨T.setVm vm₁, locs, cells, slots⟩ (Value.ref b :: argsL).toArray) :
    (∃ (v : Option Value) (vm₁ : Vm) (B : Pt), s.WarmedH vm₁ ∧ Stand p l e R s m args below meth c B.U B.locs B.cells B.slots ∧ Post ⟨T.setVm vm₁, locs, cells, slots⟩ (Value.ref b :: argsL).toArray v B ∧
      ∀ target, Steps p.tables e below (B.U.setTop { g with pc := g.pc + 3, stack := v.toList ++ rest }) target → Steps p.tables e below (T.setTop g) target) ∨
    (∃ (q : Addr) (vm₁ : Vm) (B : Pt), s.WarmedH vm₁ ∧ Stand p l e R s m args below meth c B.U B.locs B.cells B.slots ∧ PostX ⟨T.setVm vm₁, locs, cells, slots⟩ (Value.ref b :: argsL).toArray q B ∧
      Steps p.tables e below (T.setTop g) ((B.U.setTop { g with stack := rest }).pushFrame (.throwing q))) := by
  obtain ⟨r0, r, hn, hrm, hstR, hsigR⟩ := hd0
  obtain ⟨cn, ck, r1, hcn, hck, hni, hf, hn1⟩ := Cond.sameMethod_found hsame
  cases hn.symm.trans hn1
  obtain ⟨mk, methM, hnamed, hmethM, -, habM⟩ := Cond.instanceMethod_spec hinst
  obtain ⟨c2, r2, m2, q1, q2, q3, q4, kP, hkP, hkPi⟩ := Cond.selects_spec hsel
  cases hcls.symm.trans q1
  cases hf.symm.trans q2
  cases hnamed.symm.trans q3
  have hselP : selectMethod e.platform s.vm cellB.cls r0 = .method mk := by rw [Launch.admits_selectMethod X.admits]; exact q4
  obtain ⟨vm₁, X₁, hstep₁⟩ := X.invokevirtualUp hexec hown hlink hsame howner hn hrm hstR (a := b) (cell := cellB) hcell
    (fun z h => by rw [h] at hobj; cases hobj) hselP hmethM habM hkP hkPi (g := g) hg (argsL := argsL) (rest := rest) (hlen _ hsigR) hstack hdg
  rcases hK m meth c ⟨T.setVm vm₁, locs, cells, slots⟩ { g with stack := rest } (.invokevirtual index) mk (Value.ref b :: argsL).toArray X₁ hg hsize hdg hW (X₁.named hnamed) (hpre vm₁ X₁.warmed) with ⟨v, B, X', hpost, hsteps⟩ | ⟨q, B, X', hpost, hsteps⟩
  · exact Or.inl ⟨v, vm₁, B, X₁.warmed, X', hpost, fun target h => hstep₁ _ fun acts => by rw [doInvoke_state]; exact hsteps.trans h⟩
  · exact Or.inr ⟨q, vm₁, B, X₁.warmed, X', hpost, hstep₁ _ fun acts => by rw [doInvoke_state]; exact hsteps⟩
theorem vx_runU {x y : MethodName} {bytes cc : ByteArray} {maxL nL mc ms n index : Nat} {ret : Option FieldType} {ws : List Cond} {rm : Room} {Pc : Array Value → State → Prop} {Qc : Array Value → State → Outcome → State → Prop} {XC : String → State → State → Prop} {free : Addr → Prop} {Ts : List Cond} {own C owner : String} {b : Addr} {As rest : List Value} {g : JFrame}
    (S : CallFix p m c cc nL s args Ts own) (hM : vx_Met l y ws rm Pc Qc XC mc ms free) (cw : va_CU R s args own C owner index x y bytes maxL ret ws rm mc ms n) (hp : PreV s H C b Pc As)
    (hg : g.method = m) (hn : As.length = n) (hsize : g.locals.size = nL) (hstack : g.stack = As.reverse ++ .ref b :: rest) (hW : 2 * g.monitorRoom + (rest.map fun v => v.category).sum ≤ 8) (hdg : decode cc g.pc = .ok (.invokevirtual index, 3)) (hf : cells + mc ≤ R.cells ∧ slots + ms ≤ R.slots) :
    vx_Run p l e R s m args below meth c H locs cells slots mc ms g rest (Qc (Value.ref b :: As).toArray) XC free := by
  obtain ⟨hrc, hrs, hfr, hlo, hws, hcw⟩ := cw.back
  have hini := cw.init
  have hK : vx_Back l R p e below s args y 3 8 (PreOf R mc ms Pc) (PostOf Qc mc ms free) (vx_Post XC mc ms free) := vx_back (bytes := bytes) (maxL := maxL) (ret := ret) hM hp.1 hrc hrs hfr hlo hws hcw (fun a' U hW => word_at hW (Or.inl (by first | rfl | simp [Cond.onTables, Cond.keeps, Cond.steady])) hini)
  obtain ⟨hx, hb, hml, ho, -⟩ := S
  obtain ⟨-, ⟨cellB, hcB, hoB, hclB⟩, hPc⟩ := hp
  intro T hT X
  rcases vx_callVU X hx (C := C) (owner := owner) (bytes := bytes) (maxL := maxL) (ret := ret) ho cw.link cw.same cw.decl cw.notMH cw.sel cw.inst cw.code hK (by rw [hT]; exact hcB) hoB hclB hg (hsize.trans hml.symm) (argsL := As) (rest := rest) (fun sig h => hn.trans (cw.len sig h)) hstack hW (by rw [hb]; exact hdg)
    (fun vm₁ hW₁ => ⟨hf.1, hf.2, hPc (T.setVm vm₁) hT hW₁⟩) with ⟨v, vm₁, ⟨U', l2, c2, s2⟩, hW₁, X', ⟨g', mk, t, L, e1, e2, hq, h1, hL, h2, h3⟩, st⟩ | ⟨q, vm₁, ⟨U', l2, c2, s2⟩, hW₁, X', ⟨g', mk, t, L, E, ce, e1, e2, hq, hce, hcv, hcl, h1, hL, h2, h3⟩, st⟩
  · dsimp only [Pt.U, Pt.locs, Pt.cells, Pt.slots] at X' e1 e2 h1 h2 h3 st
    subst h1; subst h2; subst h3
    exact Or.inl ⟨v, (T.setVm vm₁).calling g' mk (Value.ref b :: As).toArray, t, U', L, hT, X', hL, e1, e2, hq, st⟩
  · dsimp only [Pt.U, Pt.locs, Pt.cells, Pt.slots] at X' e1 e2 h1 h2 h3 st hcl
    subst h1; subst h2; subst h3
    exact Or.inr ⟨q, (T.setVm vm₁).calling g' mk (Value.ref b :: As).toArray, t, U', L, E, ce, hT, X', hL, e1, e2, hq, hce, hcv, vx_cls hW₁ hcl, st⟩
end
/-! ===== END ===== -/
/-! ===== BEGIN a private method of a nest mate that may throw (follows va_callVN, va_callSN, va_runVN, va_runSN) ===== -/
section
variable {p : Program} {l : Launch} {e : Env} {R : Room} {s : State} {m : MethodId} {args : Array Value} {below : List Frame} {meth : Method} {c : Code} {H : Heap} {locs : List Loc} {cells slots : Nat}
variable {T : State}
theorem vx_callVN (X : Stand p l e R s m args below meth c T locs cells slots) (hexec : p.tables.exec = Jvm.exec) {own C : String} {index : Nat} {host : String} {y : MethodName} {bytes : ByteArray} {maxL : Nat} {ret : Option FieldType}
    (hown : s.vm.findClass own = some m.cls) (hlink : (Cond.methodLinkNest own index y host).before args s = true) (hinst : (Cond.instanceMethod y).before args s = true) (hsel : (Cond.selects C y y).before args s = true)
    (hcode : (Cond.code y bytes maxL ret).before args s = true) (hy : y.cls ≠ "java/lang/invoke/MethodHandle" ∧ y.cls ≠ "java/lang/invoke/VarHandle")
    {W : Nat} {Pre : Pt → Array Value → Prop} {Post : Pt → Array Value → Option Value → Pt → Prop} {PostX : Pt → Array Value → Addr → Pt → Prop} (hK : vx_Back l R p e below s args y 3 W Pre Post PostX)
    {b : Addr} {cellB : Cell} (hcell : T.heap[b]? = some cellB) (hobj : cellB.vm.isStatics = false) (hcls : s.vm.findClass C = some cellB.cls)
    {g : JFrame} (hg : g.method = m) (hsize : g.locals.size = c.maxLocals) {argsL rest : List Value} (hlen : ∀ sig, parseMethodDescriptor y.desc = some sig → argsL.length = sig.parameters.length)
    (hstack : g.stack = argsL.reverse ++ .ref b :: rest) (hW : 2 * g.monitorRoom + (rest.map fun v => v.category).sum ≤ W) (hdg : decode c.code g.pc = .ok (.invokevirtual index, 3))
    (hpre : ∀ vm₁, s.WarmedH vm₁ → Pre ⟨T.setVm vm₁, locs, cells, slots⟩ (Value.ref b :: argsL).toArray) :
    (∃ (v : Option Value) (vm₁ : Vm) (B : Pt), s.WarmedH vm₁ ∧ Stand p l e R s m args below meth c B.U B.locs B.cells B.slots ∧ Post ⟨T.setVm vm₁, locs, cells, slots⟩ (Value.ref b :: argsL).toArray v B ∧
      ∀ target, Steps p.tables e below (B.U.setTop { g with pc := g.pc + 3, stack := v.toList ++ rest }) target → Steps p.tables e below (T.setTop g) target) ∨
    (∃ (q : Addr) (vm₁ : Vm) (B : Pt), s.WarmedH vm₁ ∧ Stand p l e R s m args below meth c B.U B.locs B.cells B.slots ∧ PostX ⟨T.setVm vm₁, locs, cells, slots⟩ (Value.ref b :: argsL).toArray q B ∧
      Steps p.tables e below (T.setTop g) ((B.U.setTop { g with stack := rest }).pushFrame (.throwing q))) := by
  obtain ⟨mk, methM, hnamed, hmethM, hstM, habM⟩ := Cond.instanceMethod_spec hinst
  obtain ⟨methM', cM, hmethM', -, -, -, -, -, -, hsigM⟩ := Cond.code_spec hnamed hcode
  cases hmethM.symm.trans hmethM'
  obtain ⟨c2, r2, m2, q1, q2, q3, q4, kP, hkP, hkPi⟩ := Cond.selects_spec hsel
  cases hcls.symm.trans q1
  cases (State.methodFound?_of_named hnamed hy).symm.trans q2
  cases hnamed.symm.trans q3
  have hselP : selectMethod e.platform s.vm cellB.cls mk = .method mk := by rw [Launch.admits_selectMethod X.admits]; exact q4
  obtain ⟨vm₁, X₁, hstep₁⟩ := X.invokevirtualNest hexec hown hlink hnamed hmethM hstM hkP hkPi hy (a := b) (cell := cellB) hcell
    (fun z h => by rw [h] at hobj; cases hobj) hselP hmethM habM hkP hkPi (g := g) hg (argsL := argsL) (rest := rest) (hlen _ hsigM) hstack hdg
  rcases hK m meth c ⟨T.setVm vm₁, locs, cells, slots⟩ { g with stack := rest } (.invokevirtual index) mk (Value.ref b :: argsL).toArray X₁ hg hsize hdg hW (X₁.named hnamed) (hpre vm₁ X₁.warmed) with ⟨v, B, X', hpost, hsteps⟩ | ⟨q, B, X', hpost, hsteps⟩
  · exact Or.inl ⟨v, vm₁, B, X₁.warmed, X', hpost, fun target h => hstep₁ _ fun acts => by rw [doInvoke_state]; exact hsteps.trans h⟩
  · exact Or.inr ⟨q, vm₁, B, X₁.warmed, X', hpost, hstep₁ _ fun acts => by rw [doInvoke_state]; exact hsteps⟩
theorem vx_callSN (X : Stand p l e R s m args below meth c T locs cells slots) (hexec : p.tables.exec = Jvm.exec) {own : String} {index : Nat} {host : String} {y : MethodName} {bytes : ByteArray} {maxL : Nat} {ret : Option FieldType}
    (hown : s.vm.findClass own = some m.cls) (hlink : (Cond.methodLinkNest own index y host).before args s = true) (hstat : (Cond.static y).before args s = true) (hinit : (Cond.initialized y.cls).before args s = true)
    (hcode : (Cond.code y bytes maxL ret).before args s = true) (hy : y.cls ≠ "java/lang/invoke/MethodHandle" ∧ y.cls ≠ "java/lang/invoke/VarHandle")
    {W : Nat} {Pre : Pt → Array Value → Prop} {Post : Pt → Array Value → Option Value → Pt → Prop} {PostX : Pt → Array Value → Addr → Pt → Prop} (hK : vx_Back l R p e below s args y 3 W Pre Post PostX)
    {g : JFrame} (hg : g.method = m) (hsize : g.locals.size = c.maxLocals) {argsL rest : List Value} (hlen : ∀ sig, parseMethodDescriptor y.desc = some sig → argsL.length = sig.parameters.length)
    (hstack : g.stack = argsL.reverse ++ rest) (hW : 2 * g.monitorRoom + (rest.map fun v => v.category).sum ≤ W) (hdg : decode c.code g.pc = .ok (.invokestatic index, 3))
    (hpre : ∀ vm₁, s.WarmedH vm₁ → Pre ⟨T.setVm vm₁, locs, cells, slots⟩ argsL.toArray) :
    (∃ (v : Option Value) (vm₁ : Vm) (B : Pt), s.WarmedH vm₁ ∧ Stand p l e R s m args below meth c B.U B.locs B.cells B.slots ∧ Post ⟨T.setVm vm₁, locs, cells, slots⟩ argsL.toArray v B ∧
      ∀ target, Steps p.tables e below (B.U.setTop { g with pc := g.pc + 3, stack := v.toList ++ rest }) target → Steps p.tables e below (T.setTop g) target) ∨
    (∃ (q : Addr) (vm₁ : Vm) (B : Pt), s.WarmedH vm₁ ∧ Stand p l e R s m args below meth c B.U B.locs B.cells B.slots ∧ PostX ⟨T.setVm vm₁, locs, cells, slots⟩ argsL.toArray q B ∧
      Steps p.tables e below (T.setTop g) ((B.U.setTop { g with stack := rest }).pushFrame (.throwing q))) := by
  obtain ⟨mk, hnamed⟩ := Cond.code_named hcode
  obtain ⟨methM, cM, hmethM, -, -, -, -, -, -, hsigM⟩ := Cond.code_spec hnamed hcode
  have hstatic : methM.isStatic = true := Cond.static_spec hnamed hmethM hstat
  obtain ⟨kP, hkP, -⟩ := className_of_methodNamed hnamed
  have hinitP : kP.init = .initialized := Cond.initialized_spec (findClass_of_methodNamed hnamed) hkP hinit
  obtain ⟨vm₁, X₁, hstep₁⟩ := X.invokestaticNest hexec hown hlink hnamed hmethM hstatic hkP hinitP hy (g := g) hg (argsL := argsL) (rest := rest) (hlen _ hsigM) hstack hdg
  rcases hK m meth c ⟨T.setVm vm₁, locs, cells, slots⟩ { g with stack := rest } (.invokestatic index) mk argsL.toArray X₁ hg hsize hdg hW (X₁.named hnamed) (hpre vm₁ X₁.warmed) with ⟨v, B, X', hpost, hsteps⟩ | ⟨q, B, X', hpost, hsteps⟩
  · exact Or.inl ⟨v, vm₁, B, X₁.warmed, X', hpost, fun target h => hstep₁ _ fun acts => by rw [doInvoke_state]; exact hsteps.trans h⟩
  · exact Or.inr ⟨q, vm₁, B, X₁.warmed, X', hpost, hstep₁ _ fun acts => by rw [doInvoke_state]; exact hsteps⟩
theorem vx_runVN {y : MethodName} {bytes cc : ByteArray} {maxL nL mc ms n index : Nat} {ret : Option FieldType} {ws : List Cond} {rm : Room} {Pc : Array Value → State → Prop} {Qc : Array Value → State → Outcome → State → Prop} {XC : String → State → State → Prop} {free : Addr → Prop} {Ts : List Cond} {own C host : String} {b : Addr} {As rest : List Value} {g : JFrame}
    (S : CallFix p m c cc nL s args Ts own) (hM : vx_Met l y ws rm Pc Qc XC mc ms free) (cw : va_CN R s args own index y host bytes maxL ret ws rm mc ms n ∧ (Cond.instanceMethod y).before args s = true ∧ (Cond.selects C y y).before args s = true) (hp : PreV s H C b Pc As)
    (hg : g.method = m) (hn : As.length = n) (hsize : g.locals.size = nL) (hstack : g.stack = As.reverse ++ .ref b :: rest) (hW : 2 * g.monitorRoom + (rest.map fun v => v.category).sum ≤ 8) (hdg : decode cc g.pc = .ok (.invokevirtual index, 3)) (hf : cells + mc ≤ R.cells ∧ slots + ms ≤ R.slots) :
    vx_Run p l e R s m args below meth c H locs cells slots mc ms g rest (Qc (Value.ref b :: As).toArray) XC free := by
  obtain ⟨⟨⟨hrc, hrs, hfr, hlo, hws, hcw⟩, hcode, hini, hy, hlen, hl⟩, hx1, hx2⟩ := cw
  have hK : vx_Back l R p e below s args y 3 8 (PreOf R mc ms Pc) (PostOf Qc mc ms free) (vx_Post XC mc ms free) := vx_back (bytes := bytes) (maxL := maxL) (ret := ret) hM hp.1 hrc hrs hfr hlo hws hcw (fun a' U hW => word_at hW (Or.inl (by first | rfl | simp [Cond.onTables, Cond.keeps, Cond.steady])) hini)
  obtain ⟨hx, hb, hml, ho, -⟩ := S
  obtain ⟨-, ⟨cellB, hcB, hoB, hclB⟩, hPc⟩ := hp
  intro T hT X
  rcases vx_callVN X hx (C := C) (bytes := bytes) (maxL := maxL) (ret := ret) ho hl hx1 hx2 hcode hy hK (by rw [hT]; exact hcB) hoB hclB hg (hsize.trans hml.symm) (argsL := As) (rest := rest) (fun sig h => hn.trans (hlen sig h)) hstack hW (by rw [hb]; exact hdg)
    (fun vm₁ hW₁ => ⟨hf.1, hf.2, hPc (T.setVm vm₁) hT hW₁⟩) with ⟨v, vm₁, ⟨U', l2, c2, s2⟩, hW₁, X', ⟨g', mk, t, L, e1, e2, hq, h1, hL, h2, h3⟩, st⟩ | ⟨q, vm₁, ⟨U', l2, c2, s2⟩, hW₁, X', ⟨g', mk, t, L, E, ce, e1, e2, hq, hce, hcv, hcl, h1, hL, h2, h3⟩, st⟩
  · dsimp only [Pt.U, Pt.locs, Pt.cells, Pt.slots] at X' e1 e2 h1 h2 h3 st
    subst h1; subst h2; subst h3
    exact Or.inl ⟨v, (T.setVm vm₁).calling g' mk (Value.ref b :: As).toArray, t, U', L, hT, X', hL, e1, e2, hq, st⟩
  · dsimp only [Pt.U, Pt.locs, Pt.cells, Pt.slots] at X' e1 e2 h1 h2 h3 st hcl
    subst h1; subst h2; subst h3
    exact Or.inr ⟨q, (T.setVm vm₁).calling g' mk (Value.ref b :: As).toArray, t, U', L, E, ce, hT, X', hL, e1, e2, hq, hce, hcv, vx_cls hW₁ hcl, st⟩
theorem vx_runSN {y : MethodName} {bytes cc : ByteArray} {maxL nL mc ms n index : Nat} {ret : Option FieldType} {ws : List Cond} {rm : Room} {Pc : Array Value → State → Prop} {Qc : Array Value → State → Outcome → State → Prop} {XC : String → State → State → Prop} {free : Addr → Prop} {Ts : List Cond} {own host : String} {As rest : List Value} {g : JFrame}
    (S : CallFix p m c cc nL s args Ts own) (hM : vx_Met l y ws rm Pc Qc XC mc ms free) (cw : va_CN R s args own index y host bytes maxL ret ws rm mc ms n ∧ (Cond.static y).before args s = true ∧ True) (hp : PreS s H Pc As)
    (hg : g.method = m) (hn : As.length = n) (hsize : g.locals.size = nL) (hstack : g.stack = As.reverse ++ rest) (hW : 2 * g.monitorRoom + (rest.map fun v => v.category).sum ≤ 8) (hdg : decode cc g.pc = .ok (.invokestatic index, 3)) (hf : cells + mc ≤ R.cells ∧ slots + ms ≤ R.slots) :
    vx_Run p l e R s m args below meth c H locs cells slots mc ms g rest (Qc As.toArray) XC free := by
  obtain ⟨⟨⟨hrc, hrs, hfr, hlo, hws, hcw⟩, hcode, hini, hy, hlen, hl⟩, hx1, hx2⟩ := cw
  have hK : vx_Back l R p e below s args y 3 8 (PreOf R mc ms Pc) (PostOf Qc mc ms free) (vx_Post XC mc ms free) := vx_back (bytes := bytes) (maxL := maxL) (ret := ret) hM hp.1 hrc hrs hfr hlo hws hcw (fun a' U hW => word_at hW (Or.inl (by first | rfl | simp [Cond.onTables, Cond.keeps, Cond.steady])) hini)
  obtain ⟨hx, hb, hml, ho, -⟩ := S
  have hPc := hp.2
  intro T hT X
  rcases vx_callSN X hx (bytes := bytes) (maxL := maxL) (ret := ret) ho hl hx1 hini hcode hy hK hg (hsize.trans hml.symm) (argsL := As) (rest := rest) (fun sig h => hn.trans (hlen sig h)) hstack hW (by rw [hb]; exact hdg)
    (fun vm₁ hW₁ => ⟨hf.1, hf.2, hPc (T.setVm vm₁) hT hW₁⟩) with ⟨v, vm₁, ⟨U', l2, c2, s2⟩, hW₁, X', ⟨g', mk, t, L, e1, e2, hq, h1, hL, h2, h3⟩, st⟩ | ⟨q, vm₁, ⟨U', l2, c2, s2⟩, hW₁, X', ⟨g', mk, t, L, E, ce, e1, e2, hq, hce, hcv, hcl, h1, hL, h2, h3⟩, st⟩
  · dsimp only [Pt.U, Pt.locs, Pt.cells, Pt.slots] at X' e1 e2 h1 h2 h3 st
    subst h1; subst h2; subst h3
    exact Or.inl ⟨v, (T.setVm vm₁).calling g' mk As.toArray, t, U', L, hT, X', hL, e1, e2, hq, st⟩
  · dsimp only [Pt.U, Pt.locs, Pt.cells, Pt.slots] at X' e1 e2 h1 h2 h3 st hcl
    subst h1; subst h2; subst h3
    exact Or.inr ⟨q, (T.setVm vm₁).calling g' mk As.toArray, t, U', L, E, ce, hT, X', hL, e1, e2, hq, hce, hcv, vx_cls hW₁ hcl, st⟩
end
/-! ===== END ===== -/
end
section
def RX0 : String := "PutOffParade$Choosing"
def TX0 : u_T := fun k => match k with
  | 0 => ("PutOffParade$Choosing", "places", "[I", true)
  | _ => ("PutOffParade$Choosing", "shames", "[I", true)
def tyX0 : Nat → FieldType := fun k => match k with
  | 0 => .array .int
  | _ => .array .int
theorem nmX0 : ∀ a, a < 2 → ∀ b, b < 2 → a ≠ b → (TX0 a).2.1 ≠ (TX0 b).2.1 := by decide +kernel
theorem tyX0_ok : ∀ k, k < 2 → parseFieldDescriptor (TX0 k).2.2.1 = some (tyX0 k) := by decide +kernel
abbrev cX0_init : ByteArray := prog_2_method_1_code
def yX0_init : MethodName := ⟨RX0, "<init>", "()V"⟩
abbrev cX0_mostCalled : ByteArray := prog_2_method_2_code
def yX0_mostCalled : MethodName := ⟨RX0, "mostCalled", "(LPutOffParade$Street;)I"⟩
abbrev cX0_canBeCalledTogether : ByteArray := prog_2_method_3_code
def yX0_canBeCalledTogether : MethodName := ⟨RX0, "canBeCalledTogether", "(LPutOffParade$Street;I)Z"⟩
abbrev cX0_leastShame : ByteArray := prog_2_method_4_code
def yX0_leastShame : MethodName := ⟨RX0, "leastShame", "(LPutOffParade$Street;LPutOffParade$Law;I)I"⟩
abbrev cX0_leansWithin : ByteArray := prog_2_method_5_code
def yX0_leansWithin : MethodName := ⟨RX0, "leansWithin", "(LPutOffParade$Street;I)Z"⟩
abbrev cX0_firstSwap : ByteArray := prog_2_method_6_code
def yX0_firstSwap : MethodName := ⟨RX0, "firstSwap", "(LPutOffParade$Street;II)I"⟩
abbrev cX0_gainOf : ByteArray := prog_2_method_7_code
def yX0_gainOf : MethodName := ⟨RX0, "gainOf", "(LPutOffParade$Street;II)I"⟩
abbrev cX0_restingChoices : ByteArray := prog_2_method_8_code
def yX0_restingChoices : MethodName := ⟨RX0, "restingChoices", "(II)I"⟩
abbrev cX0_isBest : ByteArray := prog_2_method_9_code
def yX0_isBest : MethodName := ⟨RX0, "isBest", "(IIII)Z"⟩
abbrev cX0_payOf : ByteArray := prog_2_method_10_code
def yX0_payOf : MethodName := ⟨RX0, "payOf", "(IIII)I"⟩
abbrev cX0_oddsOf : ByteArray := prog_2_method_11_code
def yX0_oddsOf : MethodName := ⟨RX0, "oddsOf", "(III)I"⟩
abbrev cX0_power : ByteArray := prog_2_method_12_code
def yX0_power : MethodName := ⟨RX0, "power", "(II)J"⟩
abbrev cX0_daysToLeaveFree : ByteArray := prog_2_method_13_code
def yX0_daysToLeaveFree : MethodName := ⟨RX0, "daysToLeaveFree", "(III)I"⟩
def RX1 : String := "PutOffParade$Floats"
def TX1 : u_T := fun k => match k with
  | 0 => ("PutOffParade$Floats", "rows", "I", false)
  | 1 => ("PutOffParade$Floats", "nextRow", "I", false)
  | _ => ("PutOffParade$Floats", "numbers", "[I", true)
def tyX1 : Nat → FieldType := fun k => match k with
  | 0 => .int
  | 1 => .int
  | _ => .array .int
theorem nmX1 : ∀ a, a < 3 → ∀ b, b < 3 → a ≠ b → (TX1 a).2.1 ≠ (TX1 b).2.1 := by decide +kernel
theorem tyX1_ok : ∀ k, k < 3 → parseFieldDescriptor (TX1 k).2.2.1 = some (tyX1 k) := by decide +kernel
abbrev cX1_init : ByteArray := prog_3_method_1_code
def yX1_init : MethodName := ⟨RX1, "<init>", "()V"⟩
abbrev cX1_copyFrom : ByteArray := prog_3_method_2_code
def yX1_copyFrom : MethodName := ⟨RX1, "copyFrom", "(LPutOffParade$Floats;)V"⟩
abbrev cX1_add : ByteArray := prog_3_method_3_code
def yX1_add : MethodName := ⟨RX1, "add", "(IIII)V"⟩
abbrev cX1_valueOf : ByteArray := prog_3_method_4_code
def yX1_valueOf : MethodName := ⟨RX1, "valueOf", "(II)I"⟩
abbrev cX1_rowsOf : ByteArray := prog_3_method_5_code
def yX1_rowsOf : MethodName := ⟨RX1, "rowsOf", "(I)I"⟩
abbrev cX1_latestMonthOf : ByteArray := prog_3_method_6_code
def yX1_latestMonthOf : MethodName := ⟨RX1, "latestMonthOf", "(I)I"⟩
def RX2 : String := "PutOffParade$Law"
def TX2 : u_T := fun k => match k with
  | 0 => ("PutOffParade$Law", "lines", "I", false)
  | 1 => ("PutOffParade$Law", "length", "I", false)
  | 2 => ("PutOffParade$Law", "kind", "[I", true)
  | 3 => ("PutOffParade$Law", "number", "[I", true)
  | 4 => ("PutOffParade$Law", "from", "[I", true)
  | 5 => ("PutOffParade$Law", "to", "[I", true)
  | 6 => ("PutOffParade$Law", "code", "[I", true)
  | 7 => ("PutOffParade$Law", "parts", "[I", true)
  | _ => ("PutOffParade$Law", "stack", "[I", true)
def tyX2 : Nat → FieldType := fun k => match k with
  | 0 => .int
  | 1 => .int
  | 2 => .array .int
  | 3 => .array .int
  | 4 => .array .int
  | 5 => .array .int
  | 6 => .array .int
  | 7 => .array .int
  | _ => .array .int
theorem nmX2 : ∀ a, a < 9 → ∀ b, b < 9 → a ≠ b → (TX2 a).2.1 ≠ (TX2 b).2.1 := by decide +kernel
theorem tyX2_ok : ∀ k, k < 9 → parseFieldDescriptor (TX2 k).2.2.1 = some (tyX2 k) := by decide +kernel
abbrev cX2_init : ByteArray := prog_4_method_1_code
def yX2_init : MethodName := ⟨RX2, "<init>", "()V"⟩
abbrev cX2_copyFrom : ByteArray := prog_4_method_2_code
def yX2_copyFrom : MethodName := ⟨RX2, "copyFrom", "(LPutOffParade$Law;)V"⟩
abbrev cX2_clear : ByteArray := prog_4_method_3_code
def yX2_clear : MethodName := ⟨RX2, "clear", "()V"⟩
abbrev cX2_openLine : ByteArray := prog_4_method_4_code
def yX2_openLine : MethodName := ⟨RX2, "openLine", "(II)V"⟩
abbrev cX2_emit : ByteArray := prog_4_method_5_code
def yX2_emit : MethodName := ⟨RX2, "emit", "(I)V"⟩
abbrev cX2_closeLine : ByteArray := prog_4_method_6_code
def yX2_closeLine : MethodName := ⟨RX2, "closeLine", "()V"⟩
abbrev cX2_growthOf : ByteArray := prog_4_method_7_code
def yX2_growthOf : MethodName := ⟨RX2, "growthOf", "(LPutOffParade$Street;I)I"⟩
abbrev cX2_shameOf : ByteArray := prog_4_method_8_code
def yX2_shameOf : MethodName := ⟨RX2, "shameOf", "(LPutOffParade$Street;I)I"⟩
abbrev cX2_shameOfSet : ByteArray := prog_4_method_9_code
def yX2_shameOfSet : MethodName := ⟨RX2, "shameOfSet", "(LPutOffParade$Street;I)I"⟩
abbrev cX2_takeParts : ByteArray := prog_4_method_10_code
def yX2_takeParts : MethodName := ⟨RX2, "takeParts", "(LPutOffParade$Street;I)V"⟩
abbrev cX2_setPart : ByteArray := prog_4_method_11_code
def yX2_setPart : MethodName := ⟨RX2, "setPart", "(II)V"⟩
abbrev cX2_sumOfLines : ByteArray := prog_4_method_12_code
def yX2_sumOfLines : MethodName := ⟨RX2, "sumOfLines", "(I)I"⟩
abbrev cX2_holds : ByteArray := prog_4_method_13_code
def yX2_holds : MethodName := ⟨RX2, "holds", "(I)Z"⟩
abbrev cX2_joined : ByteArray := prog_4_method_14_code
def yX2_joined : MethodName := ⟨RX2, "joined", "(III)I"⟩
def RX3 : String := "PutOffParade$LawReader"
def TX3 : u_T := fun k => match k with
  | 0 => ("PutOffParade$TextReader", "tokens", "LPutOffParade$Tokens;", true)
  | 1 => ("PutOffParade$TextReader", "mostLines", "I", true)
  | 2 => ("PutOffParade$LawReader", "draft", "LPutOffParade$Law;", true)
  | 3 => ("PutOffParade$LawReader", "waiting", "[I", true)
  | 4 => ("PutOffParade$LawReader", "held", "I", false)
  | _ => ("PutOffParade$LawReader", "depth", "I", false)
def tyX3 : Nat → FieldType := fun k => match k with
  | 0 => .object "PutOffParade$Tokens"
  | 1 => .int
  | 2 => .object "PutOffParade$Law"
  | 3 => .array .int
  | 4 => .int
  | _ => .int
theorem nmX3 : ∀ a, a < 6 → ∀ b, b < 6 → a ≠ b → (TX3 a).2.1 ≠ (TX3 b).2.1 := by decide +kernel
theorem tyX3_ok : ∀ k, k < 6 → parseFieldDescriptor (TX3 k).2.2.1 = some (tyX3 k) := by decide +kernel
abbrev cX3_init : ByteArray := prog_5_method_1_code
def yX3_init : MethodName := ⟨RX3, "<init>", "()V"⟩
abbrev cX3_readLine : ByteArray := prog_5_method_2_code
def yX3_readLine : MethodName := ⟨RX3, "readLine", "()Z"⟩
abbrev cX3_takeKind : ByteArray := prog_5_method_3_code
def yX3_takeKind : MethodName := ⟨RX3, "takeKind", "()I"⟩
abbrev cX3_readCondition : ByteArray := prog_5_method_4_code
def yX3_readCondition : MethodName := ⟨RX3, "readCondition", "()Z"⟩
abbrev cX3_joinAtHand : ByteArray := prog_5_method_5_code
def yX3_joinAtHand : MethodName := ⟨RX3, "joinAtHand", "()I"⟩
abbrev cX3_openDeeper : ByteArray := prog_5_method_6_code
def yX3_openDeeper : MethodName := ⟨RX3, "openDeeper", "()Z"⟩
abbrev cX3_closeDeeper : ByteArray := prog_5_method_7_code
def yX3_closeDeeper : MethodName := ⟨RX3, "closeDeeper", "()V"⟩
abbrev cX3_hold : ByteArray := prog_5_method_8_code
def yX3_hold : MethodName := ⟨RX3, "hold", "(I)V"⟩
abbrev cX3_emitHeld : ByteArray := prog_5_method_9_code
def yX3_emitHeld : MethodName := ⟨RX3, "emitHeld", "(I)V"⟩
abbrev cX3_readAtom : ByteArray := prog_5_method_10_code
def yX3_readAtom : MethodName := ⟨RX3, "readAtom", "()Z"⟩
abbrev cX3_readSum : ByteArray := prog_5_method_11_code
def yX3_readSum : MethodName := ⟨RX3, "readSum", "()Z"⟩
abbrev cX3_partAtHand : ByteArray := prog_5_method_12_code
def yX3_partAtHand : MethodName := ⟨RX3, "partAtHand", "()I"⟩
def RX4 : String := "PutOffParade$Leaning"
def TX4 : u_T := fun k => match k with
  | _ => ("", "", "", false)
def tyX4 : Nat → FieldType := fun k => match k with
  | _ => .int
theorem nmX4 : ∀ a, a < 0 → ∀ b, b < 0 → a ≠ b → (TX4 a).2.1 ≠ (TX4 b).2.1 := by decide +kernel
theorem tyX4_ok : ∀ k, k < 0 → parseFieldDescriptor (TX4 k).2.2.1 = some (tyX4 k) := by decide +kernel
abbrev cX4_chainOf : ByteArray := prog_6_method_2_code
def yX4_chainOf : MethodName := ⟨RX4, "chainOf", "(LPutOffParade$Street;I)I"⟩
abbrev cX4_leaningOn : ByteArray := prog_6_method_3_code
def yX4_leaningOn : MethodName := ⟨RX4, "leaningOn", "(LPutOffParade$Street;I)I"⟩
abbrev cX4_ringBits : ByteArray := prog_6_method_4_code
def yX4_ringBits : MethodName := ⟨RX4, "ringBits", "(LPutOffParade$Street;)I"⟩
abbrev cX4_hoursTill : ByteArray := prog_6_method_5_code
def yX4_hoursTill : MethodName := ⟨RX4, "hoursTill", "(LPutOffParade$Street;I)I"⟩
abbrev cX4_hoursTillYoung : ByteArray := prog_6_method_6_code
def yX4_hoursTillYoung : MethodName := ⟨RX4, "hoursTillYoung", "(LPutOffParade$Street;I)I"⟩
abbrev cX4_hoursOf : ByteArray := prog_6_method_7_code
def yX4_hoursOf : MethodName := ⟨RX4, "hoursOf", "(LPutOffParade$Street;I)I"⟩
def RX5 : String := "PutOffParade$Street"
def TX5 : u_T := fun k => match k with
  | 0 => ("PutOffParade$Street", "people", "I", false)
  | 1 => ("PutOffParade$Street", "kerb", "[I", true)
  | 2 => ("PutOffParade$Street", "free", "[I", true)
  | 3 => ("PutOffParade$Street", "duties", "I", false)
  | 4 => ("PutOffParade$Street", "owner", "[I", true)
  | 5 => ("PutOffParade$Street", "left", "[I", true)
  | 6 => ("PutOffParade$Street", "age", "[I", true)
  | 7 => ("PutOffParade$Street", "tool", "[I", true)
  | 8 => ("PutOffParade$Street", "leans", "[I", true)
  | 9 => ("PutOffParade$Street", "state", "[I", true)
  | 10 => ("PutOffParade$Street", "day", "I", false)
  | 11 => ("PutOffParade$Street", "month", "I", false)
  | 12 => ("PutOffParade$Street", "ill", "I", false)
  | 13 => ("PutOffParade$Street", "pace", "I", false)
  | 14 => ("PutOffParade$Street", "price", "I", false)
  | 15 => ("PutOffParade$Street", "seed", "I", false)
  | 16 => ("PutOffParade$Street", "texts", "I", false)
  | _ => ("PutOffParade$Street", "floats", "LPutOffParade$Floats;", true)
def tyX5 : Nat → FieldType := fun k => match k with
  | 0 => .int
  | 1 => .array .int
  | 2 => .array .int
  | 3 => .int
  | 4 => .array .int
  | 5 => .array .int
  | 6 => .array .int
  | 7 => .array .int
  | 8 => .array .int
  | 9 => .array .int
  | 10 => .int
  | 11 => .int
  | 12 => .int
  | 13 => .int
  | 14 => .int
  | 15 => .int
  | 16 => .int
  | _ => .object "PutOffParade$Floats"
theorem nmX5 : ∀ a, a < 18 → ∀ b, b < 18 → a ≠ b → (TX5 a).2.1 ≠ (TX5 b).2.1 := by decide +kernel
theorem tyX5_ok : ∀ k, k < 18 → parseFieldDescriptor (TX5 k).2.2.1 = some (tyX5 k) := by decide +kernel
abbrev cX5_init : ByteArray := prog_7_method_1_code
def yX5_init : MethodName := ⟨RX5, "<init>", "()V"⟩
abbrev cX5_copyFrom : ByteArray := prog_7_method_2_code
def yX5_copyFrom : MethodName := ⟨RX5, "copyFrom", "(LPutOffParade$Street;)V"⟩
abbrev cX5_copyAll : ByteArray := prog_7_method_3_code
def yX5_copyAll : MethodName := ⟨RX5, "copyAll", "(LPutOffParade$Street;)V"⟩
abbrev cX5_addPerson : ByteArray := prog_7_method_4_code
def yX5_addPerson : MethodName := ⟨RX5, "addPerson", "(II)V"⟩
abbrev cX5_addDuty : ByteArray := prog_7_method_5_code
def yX5_addDuty : MethodName := ⟨RX5, "addDuty", "(IIIII)V"⟩
abbrev cX5_isWaiting : ByteArray := prog_7_method_6_code
def yX5_isWaiting : MethodName := ⟨RX5, "isWaiting", "(I)Z"⟩
abbrev cX5_leansFreely : ByteArray := prog_7_method_7_code
def yX5_leansFreely : MethodName := ⟨RX5, "leansFreely", "(I)Z"⟩
abbrev cX5_isReady : ByteArray := prog_7_method_8_code
def yX5_isReady : MethodName := ⟨RX5, "isReady", "(I)Z"⟩
abbrev cX5_areAlike : ByteArray := prog_7_method_9_code
def yX5_areAlike : MethodName := ⟨RX5, "areAlike", "(II)Z"⟩
abbrev cX5_bitsIn : ByteArray := prog_7_method_10_code
def yX5_bitsIn : MethodName := ⟨RX5, "bitsIn", "(I)I"⟩
abbrev cX5_readyBits : ByteArray := prog_7_method_11_code
def yX5_readyBits : MethodName := ⟨RX5, "readyBits", "()I"⟩
abbrev cX5_olderThan : ByteArray := prog_7_method_12_code
def yX5_olderThan : MethodName := ⟨RX5, "olderThan", "(I)I"⟩
abbrev cX5_ownedBy : ByteArray := prog_7_method_13_code
def yX5_ownedBy : MethodName := ⟨RX5, "ownedBy", "(I)I"⟩
abbrev cX5_loadOf : ByteArray := prog_7_method_14_code
def yX5_loadOf : MethodName := ⟨RX5, "loadOf", "(I)I"⟩
abbrev cX5_standingBetween : ByteArray := prog_7_method_15_code
def yX5_standingBetween : MethodName := ⟨RX5, "standingBetween", "(II)I"⟩
abbrev cX5_placeOf : ByteArray := prog_7_method_16_code
def yX5_placeOf : MethodName := ⟨RX5, "placeOf", "(I)I"⟩
abbrev cX5_dutyAt : ByteArray := prog_7_method_17_code
def yX5_dutyAt : MethodName := ⟨RX5, "dutyAt", "(I)I"⟩
abbrev cX5_passesOf : ByteArray := prog_7_method_18_code
def yX5_passesOf : MethodName := ⟨RX5, "passesOf", "(I)I"⟩
abbrev cX5_canBits : ByteArray := prog_7_method_19_code
def yX5_canBits : MethodName := ⟨RX5, "canBits", "()I"⟩
abbrev cX5_kerbAt : ByteArray := prog_7_method_20_code
def yX5_kerbAt : MethodName := ⟨RX5, "kerbAt", "(II)I"⟩
abbrev cX5_finish : ByteArray := prog_7_method_21_code
def yX5_finish : MethodName := ⟨RX5, "finish", "(I)V"⟩
abbrev cX5_growOlder : ByteArray := prog_7_method_22_code
def yX5_growOlder : MethodName := ⟨RX5, "growOlder", "(I)V"⟩
abbrev cX5_passDay : ByteArray := prog_7_method_23_code
def yX5_passDay : MethodName := ⟨RX5, "passDay", "(LPutOffParade$Law;Z)V"⟩
abbrev cX5_daysTillDone : ByteArray := prog_7_method_24_code
def yX5_daysTillDone : MethodName := ⟨RX5, "daysTillDone", "(LPutOffParade$Law;I)I"⟩
abbrev cX5_daysTillNoneWaits : ByteArray := prog_7_method_25_code
def yX5_daysTillNoneWaits : MethodName := ⟨RX5, "daysTillNoneWaits", "(LPutOffParade$Law;)I"⟩
abbrev cX5_draw : ByteArray := prog_7_method_26_code
def yX5_draw : MethodName := ⟨RX5, "draw", "()I"⟩
abbrev cX5_work : ByteArray := prog_7_method_27_code
def yX5_work : MethodName := ⟨RX5, "work", "(II)I"⟩
abbrev cX5_passMonth : ByteArray := prog_7_method_28_code
def yX5_passMonth : MethodName := ⟨RX5, "passMonth", "(LPutOffParade$Law;)V"⟩
def RX6 : String := "PutOffParade$StreetReader"
def TX6 : u_T := fun k => match k with
  | 0 => ("PutOffParade$TextReader", "tokens", "LPutOffParade$Tokens;", true)
  | 1 => ("PutOffParade$TextReader", "mostLines", "I", true)
  | _ => ("PutOffParade$StreetReader", "draft", "LPutOffParade$Street;", true)
def tyX6 : Nat → FieldType := fun k => match k with
  | 0 => .object "PutOffParade$Tokens"
  | 1 => .int
  | _ => .object "PutOffParade$Street"
theorem nmX6 : ∀ a, a < 3 → ∀ b, b < 3 → a ≠ b → (TX6 a).2.1 ≠ (TX6 b).2.1 := by decide +kernel
theorem tyX6_ok : ∀ k, k < 3 → parseFieldDescriptor (TX6 k).2.2.1 = some (tyX6 k) := by decide +kernel
abbrev cX6_init : ByteArray := prog_8_method_1_code
def yX6_init : MethodName := ⟨RX6, "<init>", "()V"⟩
abbrev cX6_readLine : ByteArray := prog_8_method_2_code
def yX6_readLine : MethodName := ⟨RX6, "readLine", "()Z"⟩
abbrev cX6_readPerson : ByteArray := prog_8_method_3_code
def yX6_readPerson : MethodName := ⟨RX6, "readPerson", "()Z"⟩
abbrev cX6_readDuty : ByteArray := prog_8_method_4_code
def yX6_readDuty : MethodName := ⟨RX6, "readDuty", "()Z"⟩
abbrev cX6_readForgotten : ByteArray := prog_8_method_5_code
def yX6_readForgotten : MethodName := ⟨RX6, "readForgotten", "()Z"⟩
abbrev cX6_readSetting : ByteArray := prog_8_method_6_code
def yX6_readSetting : MethodName := ⟨RX6, "readSetting", "()Z"⟩
abbrev cX6_readNumberOf : ByteArray := prog_8_method_7_code
def yX6_readNumberOf : MethodName := ⟨RX6, "readNumberOf", "(LPutOffParade$Word;II)I"⟩
def RX7 : String := "PutOffParade$Tape"
def TX7 : u_T := fun k => match k with
  | 0 => ("PutOffParade$Tape", "bytes", "[B", true)
  | _ => ("PutOffParade$Tape", "length", "I", false)
def tyX7 : Nat → FieldType := fun k => match k with
  | 0 => .array .byte
  | _ => .int
theorem nmX7 : ∀ a, a < 2 → ∀ b, b < 2 → a ≠ b → (TX7 a).2.1 ≠ (TX7 b).2.1 := by decide +kernel
theorem tyX7_ok : ∀ k, k < 2 → parseFieldDescriptor (TX7 k).2.2.1 = some (tyX7 k) := by decide +kernel
abbrev cX7_init : ByteArray := prog_9_method_1_code
def yX7_init : MethodName := ⟨RX7, "<init>", "()V"⟩
abbrev cX7_append : ByteArray := prog_9_method_2_code
def yX7_append : MethodName := ⟨RX7, "append", "(I)V"⟩
abbrev cX7_byteAt : ByteArray := prog_9_method_3_code
def yX7_byteAt : MethodName := ⟨RX7, "byteAt", "(I)I"⟩
def RX8 : String := "PutOffParade$TextReader"
def TX8 : u_T := fun k => match k with
  | _ => ("", "", "", false)
def tyX8 : Nat → FieldType := fun k => match k with
  | _ => .int
theorem nmX8 : ∀ a, a < 0 → ∀ b, b < 0 → a ≠ b → (TX8 a).2.1 ≠ (TX8 b).2.1 := by decide +kernel
theorem tyX8_ok : ∀ k, k < 0 → parseFieldDescriptor (TX8 k).2.2.1 = some (tyX8 k) := by decide +kernel
abbrev cX8_init : ByteArray := prog_10_method_1_code
def yX8_init : MethodName := ⟨RX8, "<init>", "(I)V"⟩
abbrev cX8_readLines : ByteArray := prog_10_method_3_code
def yX8_readLines : MethodName := ⟨RX8, "readLines", "(LPutOffParade$Tape;)I"⟩
def RX9 : String := "PutOffParade$Tokens"
def TX9 : u_T := fun k => match k with
  | 0 => ("PutOffParade$Tokens", "kinds", "[I", true)
  | 1 => ("PutOffParade$Tokens", "begins", "[I", true)
  | 2 => ("PutOffParade$Tokens", "ends", "[I", true)
  | 3 => ("PutOffParade$Tokens", "values", "[I", true)
  | 4 => ("PutOffParade$Tokens", "size", "I", false)
  | 5 => ("PutOffParade$Tokens", "current", "I", false)
  | 6 => ("PutOffParade$Tokens", "kind", "I", false)
  | 7 => ("PutOffParade$Tokens", "begin", "I", false)
  | 8 => ("PutOffParade$Tokens", "value", "I", false)
  | _ => ("PutOffParade$Tokens", "word", "LPutOffParade$Word;", false)
def tyX9 : Nat → FieldType := fun k => match k with
  | 0 => .array .int
  | 1 => .array .int
  | 2 => .array .int
  | 3 => .array .int
  | 4 => .int
  | 5 => .int
  | 6 => .int
  | 7 => .int
  | 8 => .int
  | _ => .object "PutOffParade$Word"
theorem nmX9 : ∀ a, a < 10 → ∀ b, b < 10 → a ≠ b → (TX9 a).2.1 ≠ (TX9 b).2.1 := by decide +kernel
theorem tyX9_ok : ∀ k, k < 10 → parseFieldDescriptor (TX9 k).2.2.1 = some (tyX9 k) := by decide +kernel
abbrev cX9_init : ByteArray := prog_11_method_1_code
def yX9_init : MethodName := ⟨RX9, "<init>", "()V"⟩
abbrev cX9_scan : ByteArray := prog_11_method_2_code
def yX9_scan : MethodName := ⟨RX9, "scan", "(LPutOffParade$Tape;)V"⟩
abbrev cX9_kindOf : ByteArray := prog_11_method_3_code
def yX9_kindOf : MethodName := ⟨RX9, "kindOf", "(I)I"⟩
abbrev cX9_open : ByteArray := prog_11_method_4_code
def yX9_open : MethodName := ⟨RX9, "open", "(II)V"⟩
abbrev cX9_valueOf : ByteArray := prog_11_method_5_code
def yX9_valueOf : MethodName := ⟨RX9, "valueOf", "(LPutOffParade$Tape;I)I"⟩
abbrev cX9_wordOf : ByteArray := prog_11_method_6_code
def yX9_wordOf : MethodName := ⟨RX9, "wordOf", "(LPutOffParade$Tape;I)I"⟩
abbrev cX9_isText : ByteArray := prog_11_method_7_code
def yX9_isText : MethodName := ⟨RX9, "isText", "(LPutOffParade$Tape;ILjava/lang/String;)Z"⟩
abbrev cX9_numberOf : ByteArray := prog_11_method_8_code
def yX9_numberOf : MethodName := ⟨RX9, "numberOf", "(LPutOffParade$Tape;I)I"⟩
abbrev cX9_next : ByteArray := prog_11_method_9_code
def yX9_next : MethodName := ⟨RX9, "next", "()V"⟩
abbrev cX9_isEnd : ByteArray := prog_11_method_10_code
def yX9_isEnd : MethodName := ⟨RX9, "isEnd", "()Z"⟩
abbrev cX9_isSign : ByteArray := prog_11_method_11_code
def yX9_isSign : MethodName := ⟨RX9, "isSign", "(C)Z"⟩
abbrev cX9_takeSign : ByteArray := prog_11_method_12_code
def yX9_takeSign : MethodName := ⟨RX9, "takeSign", "(C)Z"⟩
abbrev cX9_takeWord : ByteArray := prog_11_method_13_code
def yX9_takeWord : MethodName := ⟨RX9, "takeWord", "(LPutOffParade$Word;)Z"⟩
abbrev cX9_takeNumber : ByteArray := prog_11_method_14_code
def yX9_takeNumber : MethodName := ⟨RX9, "takeNumber", "(II)I"⟩
def RX10 : String := "PutOffParade$Word"
def TX10 : u_T := fun k => match k with
  | _ => ("", "", "", false)
def tyX10 : Nat → FieldType := fun k => match k with
  | _ => .int
theorem nmX10 : ∀ a, a < 0 → ∀ b, b < 0 → a ≠ b → (TX10 a).2.1 ≠ (TX10 b).2.1 := by decide +kernel
theorem tyX10_ok : ∀ k, k < 0 → parseFieldDescriptor (TX10 k).2.2.1 = some (tyX10 k) := by decide +kernel
def RX11 : String := "PutOffParade"
def TX11 : u_T := fun k => match k with
  | 0 => ("PutOffParade", "tape", "LPutOffParade$Tape;", true)
  | 1 => ("PutOffParade", "streetReader", "LPutOffParade$StreetReader;", true)
  | 2 => ("PutOffParade", "lawReader", "LPutOffParade$LawReader;", true)
  | 3 => ("PutOffParade", "wrongByte", "I", false)
  | 4 => ("PutOffParade", "now", "LPutOffParade$Street;", true)
  | 5 => ("PutOffParade", "rule", "LPutOffParade$Law;", true)
  | 6 => ("PutOffParade", "choosing", "LPutOffParade$Choosing;", true)
  | 7 => ("PutOffParade", "later", "LPutOffParade$Street;", true)
  | 8 => ("PutOffParade", "imageStreet", "LPutOffParade$Street;", true)
  | 9 => ("PutOffParade", "imageRule", "LPutOffParade$Law;", true)
  | 10 => ("PutOffParade", "imageKept", "Z", false)
  | 11 => ("PutOffParade", "past", "[LPutOffParade$Street;", true)
  | 12 => ("PutOffParade", "firstAct", "I", false)
  | _ => ("PutOffParade", "acts", "I", false)
def tyX11 : Nat → FieldType := fun k => match k with
  | 0 => .object "PutOffParade$Tape"
  | 1 => .object "PutOffParade$StreetReader"
  | 2 => .object "PutOffParade$LawReader"
  | 3 => .int
  | 4 => .object "PutOffParade$Street"
  | 5 => .object "PutOffParade$Law"
  | 6 => .object "PutOffParade$Choosing"
  | 7 => .object "PutOffParade$Street"
  | 8 => .object "PutOffParade$Street"
  | 9 => .object "PutOffParade$Law"
  | 10 => .boolean
  | 11 => .array (.object "PutOffParade$Street")
  | 12 => .int
  | _ => .int
theorem nmX11 : ∀ a, a < 14 → ∀ b, b < 14 → a ≠ b → (TX11 a).2.1 ≠ (TX11 b).2.1 := by decide +kernel
theorem tyX11_ok : ∀ k, k < 14 → parseFieldDescriptor (TX11 k).2.2.1 = some (tyX11 k) := by decide +kernel
abbrev cX11_init : ByteArray := prog_1_method_1_code
def yX11_init : MethodName := ⟨RX11, "<init>", "()V"⟩
abbrev cX11_feed : ByteArray := prog_1_method_2_code
def yX11_feed : MethodName := ⟨RX11, "feed", "(IIIII)I"⟩
abbrev cX11_end : ByteArray := prog_1_method_3_code
def yX11_end : MethodName := ⟨RX11, "end", "(I)Z"⟩
abbrev cX11_street : ByteArray := prog_1_method_4_code
def yX11_street : MethodName := ⟨RX11, "street", "()I"⟩
abbrev cX11_law : ByteArray := prog_1_method_5_code
def yX11_law : MethodName := ⟨RX11, "law", "()I"⟩
abbrev cX11_fault : ByteArray := prog_1_method_6_code
def yX11_fault : MethodName := ⟨RX11, "fault", "()I"⟩
abbrev cX11_person : ByteArray := prog_1_method_7_code
def yX11_person : MethodName := ⟨RX11, "person", "(II)I"⟩
abbrev cX11_duty : ByteArray := prog_1_method_8_code
def yX11_duty : MethodName := ⟨RX11, "duty", "(II)I"⟩
abbrev cX11_count : ByteArray := prog_1_method_9_code
def yX11_count : MethodName := ⟨RX11, "count", "(I)I"⟩
abbrev cX11_call : ByteArray := prog_1_method_10_code
def yX11_call : MethodName := ⟨RX11, "call", "(I)I"⟩
abbrev cX11_put : ByteArray := prog_1_method_11_code
def yX11_put : MethodName := ⟨RX11, "put", "(I)I"⟩
abbrev cX11_forget : ByteArray := prog_1_method_12_code
def yX11_forget : MethodName := ⟨RX11, "forget", "(I)I"⟩
abbrev cX11_recall : ByteArray := prog_1_method_13_code
def yX11_recall : MethodName := ⟨RX11, "recall", "(I)I"⟩
abbrev cX11_hand : ByteArray := prog_1_method_14_code
def yX11_hand : MethodName := ⟨RX11, "hand", "(II)I"⟩
abbrev cX11_lean : ByteArray := prog_1_method_15_code
def yX11_lean : MethodName := ⟨RX11, "lean", "(II)I"⟩
abbrev cX11_free : ByteArray := prog_1_method_16_code
def yX11_free : MethodName := ⟨RX11, "free", "(II)I"⟩
abbrev cX11_days : ByteArray := prog_1_method_17_code
def yX11_days : MethodName := ⟨RX11, "days", "(I)I"⟩
abbrev cX11_parade : ByteArray := prog_1_method_18_code
def yX11_parade : MethodName := ⟨RX11, "parade", "(I)I"⟩
abbrev cX11_can : ByteArray := prog_1_method_19_code
def yX11_can : MethodName := ⟨RX11, "can", "()I"⟩
abbrev cX11_greets : ByteArray := prog_1_method_20_code
def yX11_greets : MethodName := ⟨RX11, "greets", "(II)I"⟩
abbrev cX11_where : ByteArray := prog_1_method_21_code
def yX11_where : MethodName := ⟨RX11, "where", "(II)I"⟩
abbrev cX11_crowd : ByteArray := prog_1_method_22_code
def yX11_crowd : MethodName := ⟨RX11, "crowd", "(III)I"⟩
abbrev cX11_most : ByteArray := prog_1_method_23_code
def yX11_most : MethodName := ⟨RX11, "most", "()I"⟩
abbrev cX11_does : ByteArray := prog_1_method_24_code
def yX11_does : MethodName := ⟨RX11, "does", "(IZ)I"⟩
abbrev cX11_soon : ByteArray := prog_1_method_25_code
def yX11_soon : MethodName := ⟨RX11, "soon", "(I)I"⟩
abbrev cX11_longest : ByteArray := prog_1_method_26_code
def yX11_longest : MethodName := ⟨RX11, "longest", "()I"⟩
abbrev cX11_ring : ByteArray := prog_1_method_27_code
def yX11_ring : MethodName := ⟨RX11, "ring", "()I"⟩
abbrev cX11_before : ByteArray := prog_1_method_28_code
def yX11_before : MethodName := ⟨RX11, "before", "(I)I"⟩
abbrev cX11_after : ByteArray := prog_1_method_29_code
def yX11_after : MethodName := ⟨RX11, "after", "(I)I"⟩
abbrev cX11_depth : ByteArray := prog_1_method_30_code
def yX11_depth : MethodName := ⟨RX11, "depth", "(I)I"⟩
abbrev cX11_young : ByteArray := prog_1_method_31_code
def yX11_young : MethodName := ⟨RX11, "young", "(I)I"⟩
abbrev cX11_older : ByteArray := prog_1_method_32_code
def yX11_older : MethodName := ⟨RX11, "older", "(I)I"⟩
abbrev cX11_whose : ByteArray := prog_1_method_33_code
def yX11_whose : MethodName := ⟨RX11, "whose", "()I"⟩
abbrev cX11_ask : ByteArray := prog_1_method_34_code
def yX11_ask : MethodName := ⟨RX11, "ask", "()I"⟩
abbrev cX11_gap : ByteArray := prog_1_method_35_code
def yX11_gap : MethodName := ⟨RX11, "gap", "()I"⟩
abbrev cX11_lost : ByteArray := prog_1_method_36_code
def yX11_lost : MethodName := ⟨RX11, "lost", "()I"⟩
abbrev cX11_missed : ByteArray := prog_1_method_37_code
def yX11_missed : MethodName := ⟨RX11, "missed", "()I"⟩
abbrev cX11_swap : ByteArray := prog_1_method_38_code
def yX11_swap : MethodName := ⟨RX11, "swap", "(II)I"⟩
abbrev cX11_rests : ByteArray := prog_1_method_39_code
def yX11_rests : MethodName := ⟨RX11, "rests", "(III)I"⟩
abbrev cX11_sponsor : ByteArray := prog_1_method_40_code
def yX11_sponsor : MethodName := ⟨RX11, "sponsor", "()I"⟩
abbrev cX11_idle : ByteArray := prog_1_method_41_code
def yX11_idle : MethodName := ⟨RX11, "idle", "()I"⟩
abbrev cX11_worst : ByteArray := prog_1_method_42_code
def yX11_worst : MethodName := ⟨RX11, "worst", "()I"⟩
abbrev cX11_alike : ByteArray := prog_1_method_43_code
def yX11_alike : MethodName := ⟨RX11, "alike", "()I"⟩
abbrev cX11_odds : ByteArray := prog_1_method_44_code
def yX11_odds : MethodName := ⟨RX11, "odds", "(II)I"⟩
abbrev cX11_spare : ByteArray := prog_1_method_45_code
def yX11_spare : MethodName := ⟨RX11, "spare", "(II)I"⟩
abbrev cX11_done : ByteArray := prog_1_method_46_code
def yX11_done : MethodName := ⟨RX11, "done", "(I)I"⟩
abbrev cX11_all : ByteArray := prog_1_method_47_code
def yX11_all : MethodName := ⟨RX11, "all", "()I"⟩
abbrev cX11_help : ByteArray := prog_1_method_48_code
def yX11_help : MethodName := ⟨RX11, "help", "()I"⟩
abbrev cX11_crux : ByteArray := prog_1_method_49_code
def yX11_crux : MethodName := ⟨RX11, "crux", "()I"⟩
abbrev cX11_sick : ByteArray := prog_1_method_50_code
def yX11_sick : MethodName := ⟨RX11, "sick", "(I)I"⟩
abbrev cX11_ahead : ByteArray := prog_1_method_51_code
def yX11_ahead : MethodName := ⟨RX11, "ahead", "(III)I"⟩
abbrev cX11_trial : ByteArray := prog_1_method_52_code
def yX11_trial : MethodName := ⟨RX11, "trial", "(IZ)I"⟩
abbrev cX11_span : ByteArray := prog_1_method_53_code
def yX11_span : MethodName := ⟨RX11, "span", "(IZ)I"⟩
abbrev cX11_led : ByteArray := prog_1_method_54_code
def yX11_led : MethodName := ⟨RX11, "led", "(IZ)I"⟩
abbrev cX11_log : ByteArray := prog_1_method_55_code
def yX11_log : MethodName := ⟨RX11, "log", "(II)I"⟩
abbrev cX11_seed : ByteArray := prog_1_method_56_code
def yX11_seed : MethodName := ⟨RX11, "seed", "(I)I"⟩
abbrev cX11_undo : ByteArray := prog_1_method_57_code
def yX11_undo : MethodName := ⟨RX11, "undo", "()Z"⟩
abbrev cX11_image : ByteArray := prog_1_method_58_code
def yX11_image : MethodName := ⟨RX11, "image", "()V"⟩
abbrev cX11_back : ByteArray := prog_1_method_59_code
def yX11_back : MethodName := ⟨RX11, "back", "()Z"⟩
abbrev cX11_needPerson : ByteArray := prog_1_method_60_code
def yX11_needPerson : MethodName := ⟨RX11, "needPerson", "(I)V"⟩
abbrev cX11_needDuty : ByteArray := prog_1_method_61_code
def yX11_needDuty : MethodName := ⟨RX11, "needDuty", "(I)V"⟩
abbrev cX11_needKerb : ByteArray := prog_1_method_62_code
def yX11_needKerb : MethodName := ⟨RX11, "needKerb", "(I)V"⟩
abbrev cX11_needNumber : ByteArray := prog_1_method_63_code
def yX11_needNumber : MethodName := ⟨RX11, "needNumber", "(III)V"⟩
abbrev cX11_needTwo : ByteArray := prog_1_method_64_code
def yX11_needTwo : MethodName := ⟨RX11, "needTwo", "(II)V"⟩
abbrev cX11_needState : ByteArray := prog_1_method_65_code
def yX11_needState : MethodName := ⟨RX11, "needState", "(II)V"⟩
abbrev cX11_pastAt : ByteArray := prog_1_method_66_code
def yX11_pastAt : MethodName := ⟨RX11, "pastAt", "(I)LPutOffParade$Street;"⟩
abbrev cX11_rememberAct : ByteArray := prog_1_method_67_code
def yX11_rememberAct : MethodName := ⟨RX11, "rememberAct", "()V"⟩
abbrev cX11_letParadeGoBy : ByteArray := prog_1_method_68_code
def yX11_letParadeGoBy : MethodName := ⟨RX11, "letParadeGoBy", "()V"⟩
abbrev cX11_shameTriedOut : ByteArray := prog_1_method_69_code
def yX11_shameTriedOut : MethodName := ⟨RX11, "shameTriedOut", "(II)I"⟩
abbrev cX11_shameOfWaiting : ByteArray := prog_1_method_70_code
def yX11_shameOfWaiting : MethodName := ⟨RX11, "shameOfWaiting", "(LPutOffParade$Street;)I"⟩
abbrev cX11_shareOf : ByteArray := prog_1_method_71_code
def yX11_shareOf : MethodName := ⟨RX11, "shareOf", "(I)I"⟩
abbrev cX11_isGap : ByteArray := prog_1_method_72_code
def yX11_isGap : MethodName := ⟨RX11, "isGap", "(I)Z"⟩
abbrev cX11_takeWhoFits : ByteArray := prog_1_method_73_code
def yX11_takeWhoFits : MethodName := ⟨RX11, "takeWhoFits", "()I"⟩
abbrev cX11_whoFits : ByteArray := prog_1_method_74_code
def yX11_whoFits : MethodName := ⟨RX11, "whoFits", "()I"⟩
abbrev cX11_kerbToAskFor : ByteArray := prog_1_method_75_code
def yX11_kerbToAskFor : MethodName := ⟨RX11, "kerbToAskFor", "(I)I"⟩
abbrev cX11_needsOf : ByteArray := prog_1_method_76_code
def yX11_needsOf : MethodName := ⟨RX11, "needsOf", "(II)I"⟩
abbrev cX11_at : ByteArray := prog_1_method_77_code
def yX11_at : MethodName := ⟨RX11, "at", "([II)I"⟩
abbrev cX11_setAt : ByteArray := prog_1_method_78_code
def yX11_setAt : MethodName := ⟨RX11, "setAt", "([III)V"⟩
abbrev cX11_copyRow : ByteArray := prog_1_method_79_code
def yX11_copyRow : MethodName := ⟨RX11, "copyRow", "([I[I)V"⟩
abbrev cX11_bit : ByteArray := prog_1_method_80_code
def yX11_bit : MethodName := ⟨RX11, "bit", "(I)I"⟩
abbrev cX11_has : ByteArray := prog_1_method_81_code
def yX11_has : MethodName := ⟨RX11, "has", "(II)Z"⟩
abbrev cX11_sumOver : ByteArray := prog_1_method_82_code
def yX11_sumOver : MethodName := ⟨RX11, "sumOver", "([II)I"⟩
def RX12 : String := "PutOffParadeModel"
def TX12 : u_T := fun k => match k with
  | 0 => ("PutOffParadeModel", "thrown", "I", false)
  | 1 => ("PutOffParadeModel", "world", "[I", true)
  | 2 => ("PutOffParadeModel", "image", "[I", true)
  | 3 => ("PutOffParadeModel", "earlier", "[I", true)
  | 4 => ("PutOffParadeModel", "trial", "[I", true)
  | 5 => ("PutOffParadeModel", "acts", "[I", true)
  | 6 => ("PutOffParadeModel", "hasImage", "Z", false)
  | 7 => ("PutOffParadeModel", "remembered", "I", false)
  | 8 => ("PutOffParadeModel", "tape", "[B", true)
  | 9 => ("PutOffParadeModel", "taped", "I", false)
  | 10 => ("PutOffParadeModel", "point", "I", false)
  | 11 => ("PutOffParadeModel", "end", "I", false)
  | 12 => ("PutOffParadeModel", "begin", "I", false)
  | 13 => ("PutOffParadeModel", "deep", "I", false)
  | 14 => ("PutOffParadeModel", "faultAt", "I", false)
  | 15 => ("PutOffParadeModel", "five", "[I", true)
  | 16 => ("PutOffParadeModel", "steps", "I", false)
  | 17 => ("PutOffParadeModel", "value", "[I", true)
  | 18 => ("PutOffParadeModel", "holder", "[I", true)
  | _ => ("PutOffParadeModel", "ways", "[J", true)
def tyX12 : Nat → FieldType := fun k => match k with
  | 0 => .int
  | 1 => .array .int
  | 2 => .array .int
  | 3 => .array .int
  | 4 => .array .int
  | 5 => .array .int
  | 6 => .boolean
  | 7 => .int
  | 8 => .array .byte
  | 9 => .int
  | 10 => .int
  | 11 => .int
  | 12 => .int
  | 13 => .int
  | 14 => .int
  | 15 => .array .int
  | 16 => .int
  | 17 => .array .int
  | 18 => .array .int
  | _ => .array .long
theorem nmX12 : ∀ a, a < 20 → ∀ b, b < 20 → a ≠ b → (TX12 a).2.1 ≠ (TX12 b).2.1 := by decide +kernel
theorem tyX12_ok : ∀ k, k < 20 → parseFieldDescriptor (TX12 k).2.2.1 = some (tyX12 k) := by decide +kernel
abbrev cX12_thrown : ByteArray := prog_14_method_1_code
def yX12_thrown : MethodName := ⟨RX12, "thrown", "()I"⟩
abbrev cX12_throwsIf : ByteArray := prog_14_method_2_code
def yX12_throwsIf : MethodName := ⟨RX12, "throwsIf", "(ZI)Z"⟩
abbrev cX12_in : ByteArray := prog_14_method_3_code
def yX12_in : MethodName := ⟨RX12, "in", "(III)Z"⟩
abbrev cX12_has : ByteArray := prog_14_method_4_code
def yX12_has : MethodName := ⟨RX12, "has", "(II)Z"⟩
abbrev cX12_init : ByteArray := prog_14_method_5_code
def yX12_init : MethodName := ⟨RX12, "<init>", "()V"⟩
abbrev cX12_image : ByteArray := prog_14_method_6_code
def yX12_image : MethodName := ⟨RX12, "image", "()V"⟩
abbrev cX12_back : ByteArray := prog_14_method_7_code
def yX12_back : MethodName := ⟨RX12, "back", "()Z"⟩
abbrev cX12_remembers : ByteArray := prog_14_method_8_code
def yX12_remembers : MethodName := ⟨RX12, "remembers", "()V"⟩
abbrev cX12_undo : ByteArray := prog_14_method_9_code
def yX12_undo : MethodName := ⟨RX12, "undo", "()Z"⟩
abbrev cX12_people : ByteArray := prog_14_method_10_code
def yX12_people : MethodName := ⟨RX12, "people", "()I"⟩
abbrev cX12_duties : ByteArray := prog_14_method_11_code
def yX12_duties : MethodName := ⟨RX12, "duties", "()I"⟩
abbrev cX12_personAt : ByteArray := prog_14_method_12_code
def yX12_personAt : MethodName := ⟨RX12, "personAt", "(II)I"⟩
abbrev cX12_ofPerson : ByteArray := prog_14_method_13_code
def yX12_ofPerson : MethodName := ⟨RX12, "ofPerson", "(II)I"⟩
abbrev cX12_at : ByteArray := prog_14_method_14_code
def yX12_at : MethodName := ⟨RX12, "at", "(II)I"⟩
abbrev cX12_of : ByteArray := prog_14_method_15_code
def yX12_of : MethodName := ⟨RX12, "of", "(II)I"⟩
abbrev cX12_isWaiting : ByteArray := prog_14_method_16_code
def yX12_isWaiting : MethodName := ⟨RX12, "isWaiting", "(I)Z"⟩
abbrev cX12_isDone : ByteArray := prog_14_method_17_code
def yX12_isDone : MethodName := ⟨RX12, "isDone", "(I)Z"⟩
abbrev cX12_isForgotten : ByteArray := prog_14_method_18_code
def yX12_isForgotten : MethodName := ⟨RX12, "isForgotten", "(I)Z"⟩
abbrev cX12_noPerson : ByteArray := prog_14_method_19_code
def yX12_noPerson : MethodName := ⟨RX12, "noPerson", "(I)Z"⟩
abbrev cX12_noDuty : ByteArray := prog_14_method_20_code
def yX12_noDuty : MethodName := ⟨RX12, "noDuty", "(I)Z"⟩
abbrev cX12_noKerb : ByteArray := prog_14_method_21_code
def yX12_noKerb : MethodName := ⟨RX12, "noKerb", "(I)Z"⟩
abbrev cX12_drawn : ByteArray := prog_14_method_22_code
def yX12_drawn : MethodName := ⟨RX12, "drawn", "(I)I"⟩
abbrev cX12_feed : ByteArray := prog_14_method_23_code
def yX12_feed : MethodName := ⟨RX12, "feed", "(IIIII)I"⟩
abbrev cX12_end : ByteArray := prog_14_method_24_code
def yX12_end : MethodName := ⟨RX12, "end", "(I)Z"⟩
abbrev cX12_isAt : ByteArray := prog_14_method_25_code
def yX12_isAt : MethodName := ⟨RX12, "isAt", "(II)Z"⟩
abbrev cX12_blanks : ByteArray := prog_14_method_26_code
def yX12_blanks : MethodName := ⟨RX12, "blanks", "()V"⟩
abbrev cX12_letters : ByteArray := prog_14_method_27_code
def yX12_letters : MethodName := ⟨RX12, "letters", "()V"⟩
abbrev cX12_isWord : ByteArray := prog_14_method_28_code
def yX12_isWord : MethodName := ⟨RX12, "isWord", "(Ljava/lang/String;)Z"⟩
abbrev cX12_passes : ByteArray := prog_14_method_29_code
def yX12_passes : MethodName := ⟨RX12, "passes", "(Ljava/lang/String;)Z"⟩
abbrev cX12_sign : ByteArray := prog_14_method_30_code
def yX12_sign : MethodName := ⟨RX12, "sign", "(I)Z"⟩
abbrev cX12_number : ByteArray := prog_14_method_31_code
def yX12_number : MethodName := ⟨RX12, "number", "(II)I"⟩
abbrev cX12_numberBehind : ByteArray := prog_14_method_32_code
def yX12_numberBehind : MethodName := ⟨RX12, "numberBehind", "(Ljava/lang/String;II)I"⟩
abbrev cX12_fault : ByteArray := prog_14_method_33_code
def yX12_fault : MethodName := ⟨RX12, "fault", "()I"⟩
abbrev cX12_uses : ByteArray := prog_14_method_34_code
def yX12_uses : MethodName := ⟨RX12, "uses", "()V"⟩
abbrev cX12_readNumber : ByteArray := prog_14_method_35_code
def yX12_readNumber : MethodName := ⟨RX12, "readNumber", "(III)Z"⟩
abbrev cX12_readPerson : ByteArray := prog_14_method_36_code
def yX12_readPerson : MethodName := ⟨RX12, "readPerson", "()Z"⟩
abbrev cX12_readDuty : ByteArray := prog_14_method_37_code
def yX12_readDuty : MethodName := ⟨RX12, "readDuty", "()Z"⟩
abbrev cX12_readForgotten : ByteArray := prog_14_method_38_code
def yX12_readForgotten : MethodName := ⟨RX12, "readForgotten", "()Z"⟩
abbrev cX12_readStreetLine : ByteArray := prog_14_method_39_code
def yX12_readStreetLine : MethodName := ⟨RX12, "readStreetLine", "()Z"⟩
abbrev cX12_emits : ByteArray := prog_14_method_40_code
def yX12_emits : MethodName := ⟨RX12, "emits", "(II)V"⟩
abbrev cX12_wordOfPart : ByteArray := prog_14_method_41_code
def yX12_wordOfPart : MethodName := ⟨RX12, "wordOfPart", "()I"⟩
abbrev cX12_readPart : ByteArray := prog_14_method_42_code
def yX12_readPart : MethodName := ⟨RX12, "readPart", "()Z"⟩
abbrev cX12_readSum : ByteArray := prog_14_method_43_code
def yX12_readSum : MethodName := ⟨RX12, "readSum", "()Z"⟩
abbrev cX12_readTag : ByteArray := prog_14_method_44_code
def yX12_readTag : MethodName := ⟨RX12, "readTag", "()Z"⟩
abbrev cX12_readAtom : ByteArray := prog_14_method_45_code
def yX12_readAtom : MethodName := ⟨RX12, "readAtom", "()Z"⟩
abbrev cX12_readAllOf : ByteArray := prog_14_method_46_code
def yX12_readAllOf : MethodName := ⟨RX12, "readAllOf", "()Z"⟩
abbrev cX12_readCond : ByteArray := prog_14_method_47_code
def yX12_readCond : MethodName := ⟨RX12, "readCond", "()Z"⟩
abbrev cX12_readLawLine : ByteArray := prog_14_method_48_code
def yX12_readLawLine : MethodName := ⟨RX12, "readLawLine", "(I)Z"⟩
abbrev cX12_readLine : ByteArray := prog_14_method_49_code
def yX12_readLine : MethodName := ⟨RX12, "readLine", "(ZI)Z"⟩
abbrev cX12_readAll : ByteArray := prog_14_method_50_code
def yX12_readAll : MethodName := ⟨RX12, "readAll", "(Z)I"⟩
abbrev cX12_street : ByteArray := prog_14_method_51_code
def yX12_street : MethodName := ⟨RX12, "street", "()I"⟩
abbrev cX12_law : ByteArray := prog_14_method_52_code
def yX12_law : MethodName := ⟨RX12, "law", "()I"⟩
abbrev cX12_leansWell : ByteArray := prog_14_method_53_code
def yX12_leansWell : MethodName := ⟨RX12, "leansWell", "(I)Z"⟩
abbrev cX12_isReady : ByteArray := prog_14_method_54_code
def yX12_isReady : MethodName := ⟨RX12, "isReady", "(I)Z"⟩
abbrev cX12_factOf : ByteArray := prog_14_method_55_code
def yX12_factOf : MethodName := ⟨RX12, "factOf", "(III)I"⟩
abbrev cX12_holdsLine : ByteArray := prog_14_method_56_code
def yX12_holdsLine : MethodName := ⟨RX12, "holdsLine", "(II)Z"⟩
abbrev cX12_sumOf : ByteArray := prog_14_method_57_code
def yX12_sumOf : MethodName := ⟨RX12, "sumOf", "(II)I"⟩
abbrev cX12_growsBy : ByteArray := prog_14_method_58_code
def yX12_growsBy : MethodName := ⟨RX12, "growsBy", "(I)I"⟩
abbrev cX12_shamesBy : ByteArray := prog_14_method_59_code
def yX12_shamesBy : MethodName := ⟨RX12, "shamesBy", "(I)I"⟩
abbrev cX12_ofState : ByteArray := prog_14_method_60_code
def yX12_ofState : MethodName := ⟨RX12, "ofState", "(I)I"⟩
abbrev cX12_goesAhead : ByteArray := prog_14_method_61_code
def yX12_goesAhead : MethodName := ⟨RX12, "goesAhead", "(II)Z"⟩
abbrev cX12_placeOf : ByteArray := prog_14_method_62_code
def yX12_placeOf : MethodName := ⟨RX12, "placeOf", "(I)I"⟩
abbrev cX12_passesBy : ByteArray := prog_14_method_63_code
def yX12_passesBy : MethodName := ⟨RX12, "passesBy", "(I)I"⟩
abbrev cX12_canBeCalled : ByteArray := prog_14_method_64_code
def yX12_canBeCalled : MethodName := ⟨RX12, "canBeCalled", "(I)Z"⟩
abbrev cX12_canOnes : ByteArray := prog_14_method_65_code
def yX12_canOnes : MethodName := ⟨RX12, "canOnes", "()I"⟩
abbrev cX12_parade : ByteArray := prog_14_method_66_code
def yX12_parade : MethodName := ⟨RX12, "parade", "(I)I"⟩
abbrev cX12_can : ByteArray := prog_14_method_67_code
def yX12_can : MethodName := ⟨RX12, "can", "()I"⟩
abbrev cX12_greets : ByteArray := prog_14_method_68_code
def yX12_greets : MethodName := ⟨RX12, "greets", "(II)I"⟩
abbrev cX12_whereAt : ByteArray := prog_14_method_69_code
def yX12_whereAt : MethodName := ⟨RX12, "whereAt", "(II)I"⟩
abbrev cX12_noHour : ByteArray := prog_14_method_70_code
def yX12_noHour : MethodName := ⟨RX12, "noHour", "(I)Z"⟩
abbrev cX12_where : ByteArray := prog_14_method_71_code
def yX12_where : MethodName := ⟨RX12, "where", "(II)I"⟩
abbrev cX12_crowd : ByteArray := prog_14_method_72_code
def yX12_crowd : MethodName := ⟨RX12, "crowd", "(III)I"⟩
abbrev cX12_canAll : ByteArray := prog_14_method_73_code
def yX12_canAll : MethodName := ⟨RX12, "canAll", "(I)Z"⟩
abbrev cX12_most : ByteArray := prog_14_method_74_code
def yX12_most : MethodName := ⟨RX12, "most", "()I"⟩
abbrev cX12_ownedBy : ByteArray := prog_14_method_75_code
def yX12_ownedBy : MethodName := ⟨RX12, "ownedBy", "(I)I"⟩
abbrev cX12_hoursOf : ByteArray := prog_14_method_76_code
def yX12_hoursOf : MethodName := ⟨RX12, "hoursOf", "(I)I"⟩
abbrev cX12_shameOf : ByteArray := prog_14_method_77_code
def yX12_shameOf : MethodName := ⟨RX12, "shameOf", "(I)I"⟩
abbrev cX12_waitingOf : ByteArray := prog_14_method_78_code
def yX12_waitingOf : MethodName := ⟨RX12, "waitingOf", "(I)I"⟩
abbrev cX12_loadOf : ByteArray := prog_14_method_79_code
def yX12_loadOf : MethodName := ⟨RX12, "loadOf", "(I)I"⟩
abbrev cX12_daysFor : ByteArray := prog_14_method_80_code
def yX12_daysFor : MethodName := ⟨RX12, "daysFor", "(II)I"⟩
abbrev cX12_needsOf : ByteArray := prog_14_method_81_code
def yX12_needsOf : MethodName := ⟨RX12, "needsOf", "(I)I"⟩
abbrev cX12_shareOf : ByteArray := prog_14_method_82_code
def yX12_shareOf : MethodName := ⟨RX12, "shareOf", "(I)I"⟩
abbrev cX12_person : ByteArray := prog_14_method_83_code
def yX12_person : MethodName := ⟨RX12, "person", "(II)I"⟩
abbrev cX12_duty : ByteArray := prog_14_method_84_code
def yX12_duty : MethodName := ⟨RX12, "duty", "(II)I"⟩
abbrev cX12_isNow : ByteArray := prog_14_method_85_code
def yX12_isNow : MethodName := ⟨RX12, "isNow", "(II)V"⟩
abbrev cX12_finishes : ByteArray := prog_14_method_86_code
def yX12_finishes : MethodName := ⟨RX12, "finishes", "(I)V"⟩
abbrev cX12_call : ByteArray := prog_14_method_87_code
def yX12_call : MethodName := ⟨RX12, "call", "(I)I"⟩
abbrev cX12_put : ByteArray := prog_14_method_88_code
def yX12_put : MethodName := ⟨RX12, "put", "(I)I"⟩
abbrev cX12_forget : ByteArray := prog_14_method_89_code
def yX12_forget : MethodName := ⟨RX12, "forget", "(I)I"⟩
abbrev cX12_recall : ByteArray := prog_14_method_90_code
def yX12_recall : MethodName := ⟨RX12, "recall", "(I)I"⟩
abbrev cX12_hand : ByteArray := prog_14_method_91_code
def yX12_hand : MethodName := ⟨RX12, "hand", "(II)I"⟩
abbrev cX12_lean : ByteArray := prog_14_method_92_code
def yX12_lean : MethodName := ⟨RX12, "lean", "(II)I"⟩
abbrev cX12_free : ByteArray := prog_14_method_93_code
def yX12_free : MethodName := ⟨RX12, "free", "(II)I"⟩
abbrev cX12_hasTool : ByteArray := prog_14_method_94_code
def yX12_hasTool : MethodName := ⟨RX12, "hasTool", "(II)Z"⟩
abbrev cX12_works : ByteArray := prog_14_method_95_code
def yX12_works : MethodName := ⟨RX12, "works", "(I)I"⟩
abbrev cX12_growsOlder : ByteArray := prog_14_method_96_code
def yX12_growsOlder : MethodName := ⟨RX12, "growsOlder", "(I)V"⟩
abbrev cX12_tells : ByteArray := prog_14_method_97_code
def yX12_tells : MethodName := ⟨RX12, "tells", "(II)V"⟩
abbrev cX12_goesBy : ByteArray := prog_14_method_98_code
def yX12_goesBy : MethodName := ⟨RX12, "goesBy", "()V"⟩
abbrev cX12_oneDay : ByteArray := prog_14_method_99_code
def yX12_oneDay : MethodName := ⟨RX12, "oneDay", "(Z)I"⟩
abbrev cX12_goesOn : ByteArray := prog_14_method_100_code
def yX12_goesOn : MethodName := ⟨RX12, "goesOn", "(IZ)I"⟩
abbrev cX12_keepsAll : ByteArray := prog_14_method_101_code
def yX12_keepsAll : MethodName := ⟨RX12, "keepsAll", "()V"⟩
abbrev cX12_bringsBack : ByteArray := prog_14_method_102_code
def yX12_bringsBack : MethodName := ⟨RX12, "bringsBack", "()V"⟩
abbrev cX12_days : ByteArray := prog_14_method_103_code
def yX12_days : MethodName := ⟨RX12, "days", "(I)I"⟩
abbrev cX12_noDays : ByteArray := prog_14_method_104_code
def yX12_noDays : MethodName := ⟨RX12, "noDays", "(I)Z"⟩
abbrev cX12_ahead : ByteArray := prog_14_method_105_code
def yX12_ahead : MethodName := ⟨RX12, "ahead", "(III)I"⟩
abbrev cX12_overIn : ByteArray := prog_14_method_106_code
def yX12_overIn : MethodName := ⟨RX12, "overIn", "(IZ)I"⟩
abbrev cX12_allDuties : ByteArray := prog_14_method_107_code
def yX12_allDuties : MethodName := ⟨RX12, "allDuties", "()I"⟩
abbrev cX12_allOver : ByteArray := prog_14_method_108_code
def yX12_allOver : MethodName := ⟨RX12, "allOver", "()I"⟩
abbrev cX12_orNone : ByteArray := prog_14_method_109_code
def yX12_orNone : MethodName := ⟨RX12, "orNone", "(I)I"⟩
abbrev cX12_done : ByteArray := prog_14_method_110_code
def yX12_done : MethodName := ⟨RX12, "done", "(I)I"⟩
abbrev cX12_all : ByteArray := prog_14_method_111_code
def yX12_all : MethodName := ⟨RX12, "all", "()I"⟩
abbrev cX12_overWith : ByteArray := prog_14_method_112_code
def yX12_overWith : MethodName := ⟨RX12, "overWith", "(II)I"⟩
abbrev cX12_help : ByteArray := prog_14_method_113_code
def yX12_help : MethodName := ⟨RX12, "help", "()I"⟩
abbrev cX12_crux : ByteArray := prog_14_method_114_code
def yX12_crux : MethodName := ⟨RX12, "crux", "()I"⟩
abbrev cX12_sick : ByteArray := prog_14_method_115_code
def yX12_sick : MethodName := ⟨RX12, "sick", "(I)I"⟩
abbrev cX12_beforeOf : ByteArray := prog_14_method_116_code
def yX12_beforeOf : MethodName := ⟨RX12, "beforeOf", "(I)I"⟩
abbrev cX12_ringOnes : ByteArray := prog_14_method_117_code
def yX12_ringOnes : MethodName := ⟨RX12, "ringOnes", "()I"⟩
abbrev cX12_ring : ByteArray := prog_14_method_118_code
def yX12_ring : MethodName := ⟨RX12, "ring", "()I"⟩
abbrev cX12_before : ByteArray := prog_14_method_119_code
def yX12_before : MethodName := ⟨RX12, "before", "(I)I"⟩
abbrev cX12_after : ByteArray := prog_14_method_120_code
def yX12_after : MethodName := ⟨RX12, "after", "(I)I"⟩
abbrev cX12_depth : ByteArray := prog_14_method_121_code
def yX12_depth : MethodName := ⟨RX12, "depth", "(I)I"⟩
abbrev cX12_chainOf : ByteArray := prog_14_method_122_code
def yX12_chainOf : MethodName := ⟨RX12, "chainOf", "(I)I"⟩
abbrev cX12_soonOf : ByteArray := prog_14_method_123_code
def yX12_soonOf : MethodName := ⟨RX12, "soonOf", "(I)I"⟩
abbrev cX12_soon : ByteArray := prog_14_method_124_code
def yX12_soon : MethodName := ⟨RX12, "soon", "(I)I"⟩
abbrev cX12_longest : ByteArray := prog_14_method_125_code
def yX12_longest : MethodName := ⟨RX12, "longest", "()I"⟩
abbrev cX12_olderOnes : ByteArray := prog_14_method_126_code
def yX12_olderOnes : MethodName := ⟨RX12, "olderOnes", "(I)I"⟩
abbrev cX12_young : ByteArray := prog_14_method_127_code
def yX12_young : MethodName := ⟨RX12, "young", "(I)I"⟩
abbrev cX12_older : ByteArray := prog_14_method_128_code
def yX12_older : MethodName := ⟨RX12, "older", "(I)I"⟩
abbrev cX12_leanWithin : ByteArray := prog_14_method_129_code
def yX12_leanWithin : MethodName := ⟨RX12, "leanWithin", "(I)Z"⟩
abbrev cX12_toDo : ByteArray := prog_14_method_130_code
def yX12_toDo : MethodName := ⟨RX12, "toDo", "(I)I"⟩
abbrev cX12_does : ByteArray := prog_14_method_131_code
def yX12_does : MethodName := ⟨RX12, "does", "(IZ)I"⟩
abbrev cX12_isTold : ByteArray := prog_14_method_132_code
def yX12_isTold : MethodName := ⟨RX12, "isTold", "()Z"⟩
abbrev cX12_allThatFit : ByteArray := prog_14_method_133_code
def yX12_allThatFit : MethodName := ⟨RX12, "allThatFit", "()I"⟩
abbrev cX12_whose : ByteArray := prog_14_method_134_code
def yX12_whose : MethodName := ⟨RX12, "whose", "()I"⟩
abbrev cX12_ask : ByteArray := prog_14_method_135_code
def yX12_ask : MethodName := ⟨RX12, "ask", "()I"⟩
abbrev cX12_isGap : ByteArray := prog_14_method_136_code
def yX12_isGap : MethodName := ⟨RX12, "isGap", "(I)Z"⟩
abbrev cX12_gap : ByteArray := prog_14_method_137_code
def yX12_gap : MethodName := ⟨RX12, "gap", "()I"⟩
abbrev cX12_lost : ByteArray := prog_14_method_138_code
def yX12_lost : MethodName := ⟨RX12, "lost", "()I"⟩
abbrev cX12_missed : ByteArray := prog_14_method_139_code
def yX12_missed : MethodName := ⟨RX12, "missed", "()I"⟩
abbrev cX12_serves : ByteArray := prog_14_method_140_code
def yX12_serves : MethodName := ⟨RX12, "serves", "(IIII)Z"⟩
abbrev cX12_swap : ByteArray := prog_14_method_141_code
def yX12_swap : MethodName := ⟨RX12, "swap", "(II)I"⟩
abbrev cX12_hasBy : ByteArray := prog_14_method_142_code
def yX12_hasBy : MethodName := ⟨RX12, "hasBy", "(III)I"⟩
abbrev cX12_rests : ByteArray := prog_14_method_143_code
def yX12_rests : MethodName := ⟨RX12, "rests", "(III)I"⟩
abbrev cX12_sponsor : ByteArray := prog_14_method_144_code
def yX12_sponsor : MethodName := ⟨RX12, "sponsor", "()I"⟩
abbrev cX12_idle : ByteArray := prog_14_method_145_code
def yX12_idle : MethodName := ⟨RX12, "idle", "()I"⟩
abbrev cX12_worst : ByteArray := prog_14_method_146_code
def yX12_worst : MethodName := ⟨RX12, "worst", "()I"⟩
abbrev cX12_alike : ByteArray := prog_14_method_147_code
def yX12_alike : MethodName := ⟨RX12, "alike", "()I"⟩
abbrev cX12_oddsOf : ByteArray := prog_14_method_148_code
def yX12_oddsOf : MethodName := ⟨RX12, "oddsOf", "(III)I"⟩
abbrev cX12_odds : ByteArray := prog_14_method_149_code
def yX12_odds : MethodName := ⟨RX12, "odds", "(II)I"⟩
abbrev cX12_spare : ByteArray := prog_14_method_150_code
def yX12_spare : MethodName := ⟨RX12, "spare", "(II)I"⟩
abbrev cX12_trial : ByteArray := prog_14_method_151_code
def yX12_trial : MethodName := ⟨RX12, "trial", "(IZ)I"⟩
abbrev cX12_span : ByteArray := prog_14_method_152_code
def yX12_span : MethodName := ⟨RX12, "span", "(IZ)I"⟩
abbrev cX12_ofLog : ByteArray := prog_14_method_153_code
def yX12_ofLog : MethodName := ⟨RX12, "ofLog", "(II)I"⟩
abbrev cX12_led : ByteArray := prog_14_method_154_code
def yX12_led : MethodName := ⟨RX12, "led", "(IZ)I"⟩
abbrev cX12_log : ByteArray := prog_14_method_155_code
def yX12_log : MethodName := ⟨RX12, "log", "(II)I"⟩
abbrev cX12_seed : ByteArray := prog_14_method_156_code
def yX12_seed : MethodName := ⟨RX12, "seed", "(I)I"⟩
abbrev cX12_readyOnes : ByteArray := prog_14_method_157_code
def yX12_readyOnes : MethodName := ⟨RX12, "readyOnes", "()I"⟩
abbrev cX12_count : ByteArray := prog_14_method_158_code
def yX12_count : MethodName := ⟨RX12, "count", "(I)I"⟩
def RJx145de : String := "java/io/Serializable"
def TJx145de : u_T := fun k => match k with
  | _ => ("", "", "", false)
def tyJx145de : Nat → FieldType := fun k => match k with
  | _ => .int
theorem nmJx145de : ∀ a, a < 0 → ∀ b, b < 0 → a ≠ b → (TJx145de a).2.1 ≠ (TJx145de b).2.1 := by decide +kernel
theorem tyJx145de_ok : ∀ k, k < 0 → parseFieldDescriptor (TJx145de k).2.2.1 = some (tyJx145de k) := by decide +kernel
def RJx9f9b0 : String := "java/lang/CharSequence"
def TJx9f9b0 : u_T := fun k => match k with
  | _ => ("", "", "", false)
def tyJx9f9b0 : Nat → FieldType := fun k => match k with
  | _ => .int
theorem nmJx9f9b0 : ∀ a, a < 0 → ∀ b, b < 0 → a ≠ b → (TJx9f9b0 a).2.1 ≠ (TJx9f9b0 b).2.1 := by decide +kernel
theorem tyJx9f9b0_ok : ∀ k, k < 0 → parseFieldDescriptor (TJx9f9b0 k).2.2.1 = some (tyJx9f9b0 k) := by decide +kernel
def RJxb160c : String := "java/lang/Comparable"
def TJxb160c : u_T := fun k => match k with
  | _ => ("", "", "", false)
def tyJxb160c : Nat → FieldType := fun k => match k with
  | _ => .int
theorem nmJxb160c : ∀ a, a < 0 → ∀ b, b < 0 → a ≠ b → (TJxb160c a).2.1 ≠ (TJxb160c b).2.1 := by decide +kernel
theorem tyJxb160c_ok : ∀ k, k < 0 → parseFieldDescriptor (TJxb160c k).2.2.1 = some (tyJxb160c k) := by decide +kernel
def RJx29ce0 : String := "java/lang/Enum"
def TJx29ce0 : u_T := fun k => match k with
  | _ => ("", "", "", false)
def tyJx29ce0 : Nat → FieldType := fun k => match k with
  | _ => .int
theorem nmJx29ce0 : ∀ a, a < 0 → ∀ b, b < 0 → a ≠ b → (TJx29ce0 a).2.1 ≠ (TJx29ce0 b).2.1 := by decide +kernel
theorem tyJx29ce0_ok : ∀ k, k < 0 → parseFieldDescriptor (TJx29ce0 k).2.2.1 = some (tyJx29ce0 k) := by decide +kernel
def RJ6 : String := "java/lang/Integer"
def TJ6 : u_T := fun k => match k with
  | _ => ("", "", "", false)
def tyJ6 : Nat → FieldType := fun k => match k with
  | _ => .int
theorem nmJ6 : ∀ a, a < 0 → ∀ b, b < 0 → a ≠ b → (TJ6 a).2.1 ≠ (TJ6 b).2.1 := by decide +kernel
theorem tyJ6_ok : ∀ k, k < 0 → parseFieldDescriptor (TJ6 k).2.2.1 = some (tyJ6 k) := by decide +kernel
abbrev cJ6_bitCount_0f7a4 : ByteArray := prog_23_method_49_code
def yJ6_bitCount_0f7a4 : MethodName := ⟨RJ6, "bitCount", "(I)I"⟩
def RJ9 : String := "java/lang/Math"
def TJ9 : u_T := fun k => match k with
  | _ => ("", "", "", false)
def tyJ9 : Nat → FieldType := fun k => match k with
  | _ => .int
theorem nmJ9 : ∀ a, a < 0 → ∀ b, b < 0 → a ≠ b → (TJ9 a).2.1 ≠ (TJ9 b).2.1 := by decide +kernel
theorem tyJ9_ok : ∀ k, k < 0 → parseFieldDescriptor (TJ9 k).2.2.1 = some (tyJ9 k) := by decide +kernel
abbrev cJ9_abs_0f7a4 : ByteArray := prog_24_method_59_code
def yJ9_abs_0f7a4 : MethodName := ⟨RJ9, "abs", "(I)I"⟩
abbrev cJ9_max_7cf53 : ByteArray := prog_24_method_65_code
def yJ9_max_7cf53 : MethodName := ⟨RJ9, "max", "(II)I"⟩
abbrev cJ9_min_7cf53 : ByteArray := prog_24_method_69_code
def yJ9_min_7cf53 : MethodName := ⟨RJ9, "min", "(II)I"⟩
def RJ0 : String := "java/lang/String"
def TJ0 : u_T := fun k => match k with
  | _ => ("", "", "", false)
def tyJ0 : Nat → FieldType := fun k => match k with
  | _ => .int
theorem nmJ0 : ∀ a, a < 0 → ∀ b, b < 0 → a ≠ b → (TJ0 a).2.1 ≠ (TJ0 b).2.1 := by decide +kernel
theorem tyJ0_ok : ∀ k, k < 0 → parseFieldDescriptor (TJ0 k).2.2.1 = some (tyJ0 k) := by decide +kernel
abbrev cJ0_length_8abf5 : ByteArray := prog_26_method_54_code
def yJ0_length_8abf5 : MethodName := ⟨RJ0, "length", "()I"⟩
abbrev cJ0_charAt_5068e : ByteArray := prog_26_method_56_code
def yJ0_charAt_5068e : MethodName := ⟨RJ0, "charAt", "(I)C"⟩
abbrev cJ0_coder_7d493 : ByteArray := prog_26_method_152_code
def yJ0_coder_7d493 : MethodName := ⟨RJ0, "coder", "()B"⟩
abbrev cJ0_isLatin1_aae02 : ByteArray := prog_26_method_154_code
def yJ0_isLatin1_aae02 : MethodName := ⟨RJ0, "isLatin1", "()Z"⟩
abbrev cJ0_checkIndex_df160 : ByteArray := prog_26_method_155_code
def yJ0_checkIndex_df160 : MethodName := ⟨RJ0, "checkIndex", "(II)V"⟩
def RJ1 : String := "java/lang/StringLatin1"
def TJ1 : u_T := fun k => match k with
  | _ => ("", "", "", false)
def tyJ1 : Nat → FieldType := fun k => match k with
  | _ => .int
theorem nmJ1 : ∀ a, a < 0 → ∀ b, b < 0 → a ≠ b → (TJ1 a).2.1 ≠ (TJ1 b).2.1 := by decide +kernel
theorem tyJ1_ok : ∀ k, k < 0 → parseFieldDescriptor (TJ1 k).2.2.1 = some (tyJ1 k) := by decide +kernel
abbrev cJ1_charAt_3b067 : ByteArray := prog_27_method_2_code
def yJ1_charAt_3b067 : MethodName := ⟨RJ1, "charAt", "([BI)C"⟩
def RJ2 : String := "java/lang/StringUTF16"
def TJ2 : u_T := fun k => match k with
  | _ => ("", "", "", false)
def tyJ2 : Nat → FieldType := fun k => match k with
  | _ => .int
theorem nmJ2 : ∀ a, a < 0 → ∀ b, b < 0 → a ≠ b → (TJ2 a).2.1 ≠ (TJ2 b).2.1 := by decide +kernel
theorem tyJ2_ok : ∀ k, k < 0 → parseFieldDescriptor (TJ2 k).2.2.1 = some (tyJ2 k) := by decide +kernel
abbrev cJ2_getChar_3b067 : ByteArray := prog_28_method_5_code
def yJ2_getChar_3b067 : MethodName := ⟨RJ2, "getChar", "([BI)C"⟩
abbrev cJ2_length_9d52b : ByteArray := prog_28_method_6_code
def yJ2_length_9d52b : MethodName := ⟨RJ2, "length", "([B)I"⟩
abbrev cJ2_charAt_3b067 : ByteArray := prog_28_method_83_code
def yJ2_charAt_3b067 : MethodName := ⟨RJ2, "charAt", "([BI)C"⟩
abbrev cJ2_checkIndex_2214a : ByteArray := prog_28_method_91_code
def yJ2_checkIndex_2214a : MethodName := ⟨RJ2, "checkIndex", "(I[B)V"⟩
def RJ10 : String := "java/lang/System"
def TJ10 : u_T := fun k => match k with
  | _ => ("", "", "", false)
def tyJ10 : Nat → FieldType := fun k => match k with
  | _ => .int
theorem nmJ10 : ∀ a, a < 0 → ∀ b, b < 0 → a ≠ b → (TJ10 a).2.1 ≠ (TJ10 b).2.1 := by decide +kernel
theorem tyJ10_ok : ∀ k, k < 0 → parseFieldDescriptor (TJ10 k).2.2.1 = some (tyJ10 k) := by decide +kernel
def RJxfd54e : String := "java/lang/constant/Constable"
def TJxfd54e : u_T := fun k => match k with
  | _ => ("", "", "", false)
def tyJxfd54e : Nat → FieldType := fun k => match k with
  | _ => .int
theorem nmJxfd54e : ∀ a, a < 0 → ∀ b, b < 0 → a ≠ b → (TJxfd54e a).2.1 ≠ (TJxfd54e b).2.1 := by decide +kernel
theorem tyJxfd54e_ok : ∀ k, k < 0 → parseFieldDescriptor (TJxfd54e k).2.2.1 = some (tyJxfd54e k) := by decide +kernel
def RJx3cf43 : String := "java/lang/constant/ConstantDesc"
def TJx3cf43 : u_T := fun k => match k with
  | _ => ("", "", "", false)
def tyJx3cf43 : Nat → FieldType := fun k => match k with
  | _ => .int
theorem nmJx3cf43 : ∀ a, a < 0 → ∀ b, b < 0 → a ≠ b → (TJx3cf43 a).2.1 ≠ (TJx3cf43 b).2.1 := by decide +kernel
theorem tyJx3cf43_ok : ∀ k, k < 0 → parseFieldDescriptor (TJx3cf43 k).2.2.1 = some (tyJx3cf43 k) := by decide +kernel
def RJ3 : String := "jdk/internal/util/Preconditions"
def TJ3 : u_T := fun k => match k with
  | _ => ("", "", "", false)
def tyJ3 : Nat → FieldType := fun k => match k with
  | _ => .int
theorem nmJ3 : ∀ a, a < 0 → ∀ b, b < 0 → a ≠ b → (TJ3 a).2.1 ≠ (TJ3 b).2.1 := by decide +kernel
theorem tyJ3_ok : ∀ k, k < 0 → parseFieldDescriptor (TJ3 k).2.2.1 = some (tyJ3 k) := by decide +kernel
abbrev cJ3_checkIndex_8e157 : ByteArray := prog_35_method_11_code
def yJ3_checkIndex_8e157 : MethodName := ⟨RJ3, "checkIndex", "(IILjava/util/function/BiFunction;)I"⟩
def RL : String := "PutOffParadeLaw"
abbrev cL_street : ByteArray := method_3_code
def yL_street : MethodName := ⟨RL, "street", "(LPutOffParade;[J)I"⟩
abbrev cL_law : ByteArray := method_4_code
def yL_law : MethodName := ⟨RL, "law", "(LPutOffParade;[J)I"⟩
abbrev cL_person : ByteArray := method_5_code
def yL_person : MethodName := ⟨RL, "person", "(LPutOffParade;II[J)I"⟩
abbrev cL_duty : ByteArray := method_6_code
def yL_duty : MethodName := ⟨RL, "duty", "(LPutOffParade;II[J)I"⟩
abbrev cL_call : ByteArray := method_7_code
def yL_call : MethodName := ⟨RL, "call", "(LPutOffParade;I[J)I"⟩
abbrev cL_put : ByteArray := method_8_code
def yL_put : MethodName := ⟨RL, "put", "(LPutOffParade;I[J)I"⟩
abbrev cL_forget : ByteArray := method_9_code
def yL_forget : MethodName := ⟨RL, "forget", "(LPutOffParade;I[J)I"⟩
abbrev cL_recall : ByteArray := method_10_code
def yL_recall : MethodName := ⟨RL, "recall", "(LPutOffParade;I[J)I"⟩
abbrev cL_hand : ByteArray := method_11_code
def yL_hand : MethodName := ⟨RL, "hand", "(LPutOffParade;II[J)I"⟩
abbrev cL_lean : ByteArray := method_12_code
def yL_lean : MethodName := ⟨RL, "lean", "(LPutOffParade;II[J)I"⟩
abbrev cL_free : ByteArray := method_13_code
def yL_free : MethodName := ⟨RL, "free", "(LPutOffParade;II[J)I"⟩
abbrev cL_days : ByteArray := method_14_code
def yL_days : MethodName := ⟨RL, "days", "(LPutOffParade;I[J)I"⟩
abbrev cL_greets : ByteArray := method_15_code
def yL_greets : MethodName := ⟨RL, "greets", "(LPutOffParade;II[J)I"⟩
abbrev cL_where : ByteArray := method_16_code
def yL_where : MethodName := ⟨RL, "where", "(LPutOffParade;II[J)I"⟩
abbrev cL_crowd : ByteArray := method_17_code
def yL_crowd : MethodName := ⟨RL, "crowd", "(LPutOffParade;III[J)I"⟩
abbrev cL_does : ByteArray := method_18_code
def yL_does : MethodName := ⟨RL, "does", "(LPutOffParade;IZ[J)I"⟩
abbrev cL_soon : ByteArray := method_19_code
def yL_soon : MethodName := ⟨RL, "soon", "(LPutOffParade;I[J)I"⟩
abbrev cL_before : ByteArray := method_20_code
def yL_before : MethodName := ⟨RL, "before", "(LPutOffParade;I[J)I"⟩
abbrev cL_after : ByteArray := method_21_code
def yL_after : MethodName := ⟨RL, "after", "(LPutOffParade;I[J)I"⟩
abbrev cL_depth : ByteArray := method_22_code
def yL_depth : MethodName := ⟨RL, "depth", "(LPutOffParade;I[J)I"⟩
abbrev cL_young : ByteArray := method_23_code
def yL_young : MethodName := ⟨RL, "young", "(LPutOffParade;I[J)I"⟩
abbrev cL_older : ByteArray := method_24_code
def yL_older : MethodName := ⟨RL, "older", "(LPutOffParade;I[J)I"⟩
abbrev cL_whose : ByteArray := method_25_code
def yL_whose : MethodName := ⟨RL, "whose", "(LPutOffParade;[J)I"⟩
abbrev cL_ask : ByteArray := method_26_code
def yL_ask : MethodName := ⟨RL, "ask", "(LPutOffParade;[J)I"⟩
abbrev cL_swap : ByteArray := method_27_code
def yL_swap : MethodName := ⟨RL, "swap", "(LPutOffParade;II[J)I"⟩
abbrev cL_rests : ByteArray := method_28_code
def yL_rests : MethodName := ⟨RL, "rests", "(LPutOffParade;III[J)I"⟩
abbrev cL_odds : ByteArray := method_29_code
def yL_odds : MethodName := ⟨RL, "odds", "(LPutOffParade;II[J)I"⟩
abbrev cL_spare : ByteArray := method_30_code
def yL_spare : MethodName := ⟨RL, "spare", "(LPutOffParade;II[J)I"⟩
abbrev cL_done : ByteArray := method_31_code
def yL_done : MethodName := ⟨RL, "done", "(LPutOffParade;I[J)I"⟩
abbrev cL_sick : ByteArray := method_32_code
def yL_sick : MethodName := ⟨RL, "sick", "(LPutOffParade;I[J)I"⟩
abbrev cL_ahead : ByteArray := method_33_code
def yL_ahead : MethodName := ⟨RL, "ahead", "(LPutOffParade;III[J)I"⟩
abbrev cL_trial : ByteArray := method_34_code
def yL_trial : MethodName := ⟨RL, "trial", "(LPutOffParade;IZ[J)I"⟩
abbrev cL_span : ByteArray := method_35_code
def yL_span : MethodName := ⟨RL, "span", "(LPutOffParade;IZ[J)I"⟩
abbrev cL_led : ByteArray := method_36_code
def yL_led : MethodName := ⟨RL, "led", "(LPutOffParade;IZ[J)I"⟩
abbrev cL_log : ByteArray := method_37_code
def yL_log : MethodName := ⟨RL, "log", "(LPutOffParade;II[J)I"⟩
abbrev cL_law_ : ByteArray := code
def yL_law_ : MethodName := ⟨RL, "law", "([I)Z"⟩
end
section
/-! ===== THE ABSTRACT MACHINE: places for addresses, a heap of numbers, and the judgement AW over the kit's W ===== -/
/-- class ids and slots, array classes by tag, the first address that is ours, addresses of the constants -/
abbrev aG : Type := va_G × (Nat → ClassId) × Nat × (Nat → Nat)
/-- kinds of places (0 none, 1 an object of class n, t > 1 an array of n), ints, longs, references (0 null, q + 1 place q), the next place (0: not known) -/
abbrev aH : Type := (Nat → Nat × Nat) × (Nat → Nat → Int32) × (Nat → Nat → Int64) × (Nat → Nat → Nat) × Nat
abbrev aE : Type := Nat × Instr × Nat × Nat × Int32
/-- a method: its name, bytes, locals, answer, handlers, code -/
abbrev aM : Type := MethodName × ByteArray × Nat × Option FieldType × List (Nat × Nat × Nat × Nat) × List (List aE)
def lookIn (pc : Nat) : List aE → Option (Instr × Nat × Nat × Int32)
  | [] => none
  | e :: r => match Nat.beq e.1 pc with | true => some e.2 | false => lookIn pc r
def nth : List (List aE) → Nat → List aE
  | [], _ => []
  | a :: _, 0 => a
  | _ :: r, n + 1 => nth r n
def look (C : aM) (pc : Nat) : Option (Instr × Nat × Nat × Int32) := lookIn pc (nth C.2.2.2.2.2 (pc / 64))
def ad (G : aG) (p : Nat) : Nat := match Nat.ble 200 p with | true => G.2.2.1 + (p - 200) | false => G.2.2.2 p
def mv (G : aG) : Value → Value
  | .ref p => .ref (ad G p)
  | v => v
def rv : Nat → Value
  | 0 => .null
  | p + 1 => .ref p
def aA (G : aG) : Nat → Prop := fun q => G.2.2.1 ≤ q
def up2 {α : Type} (f : Nat → Nat → α) (p k : Nat) (v : α) : Nat → Nat → α := fun q => if q = p then (fun j => if j = k then v else f p j) else f q
theorem up2_row {α : Type} {f : Nat → Nat → α} {p k q : Nat} {v : α} (h : q ≠ p) : up2 f p k v q = f q := by simp [up2, h]
theorem up2_at {α : Type} {f : Nat → Nat → α} {p k : Nat} {v : α} : up2 f p k v p k = v := by simp [up2]
theorem up2_ne {α : Type} {f : Nat → Nat → α} {p k q j : Nat} {v : α} (h : q ≠ p ∨ j ≠ k) : up2 f p k v q j = f q j := by
  by_cases hq : q = p
  · subst hq
    rcases h with h | h
    · exact absurd rfl h
    · simp [up2, h]
  · simp [up2, hq]
theorem mv_cat (G : aG) (v : Value) : (mv G v).category = v.category := by cases v <;> rfl
theorem mv_rv0 (G : aG) : mv G (rv 0) = .null := rfl
def rfo (G : aG) : Nat → Option Nat
  | 0 => none
  | p + 1 => some (ad G p)
theorem mv_rf (G : aG) (r : Nat) : mv G (rv r) = va_rf (rfo G r) := by cases r <;> rfl
theorem ad_dyn {G : aG} {p : Nat} (h : 200 ≤ p) : ad G p = G.2.2.1 + (p - 200) := by
  have : Nat.ble 200 p = true := Nat.ble_eq_true_of_le h
  simp [ad, this]
theorem ad_stat {G : aG} {p : Nat} (h : p < 200) : ad G p = G.2.2.2 p := by
  have : Nat.ble 200 p = false := by
    cases hb : Nat.ble 200 p with
    | false => rfl
    | true => exact absurd (Nat.le_of_ble_eq_true hb) (by omega)
  simp [ad, this]
/-- the classes whose objects are places, with their fields' types -/
abbrev aC : List (vw_C × (Nat → FieldType)) := [((RX0, TX0, 2), tyX0), ((RX1, TX1, 3), tyX1), ((RX2, TX2, 9), tyX2), ((RX3, TX3, 6), tyX3), ((RX3, TX3, 6), tyX3), ((RX5, TX5, 18), tyX5), ((RX6, TX6, 3), tyX6), ((RX7, TX7, 2), tyX7), ((RX7, TX7, 2), tyX7), ((RX9, TX9, 10), tyX9), ((RX9, TX9, 10), tyX9), ((RX11, TX11, 14), tyX11), ((RX12, TX12, 20), tyX12)]
def fv (G : aG) (I : Nat → Nat → Int32) (R : Nat → Nat → Nat) (p : Nat) (ty : FieldType) (k : Nat) : Value := match ty with
  | .int => .int (I p k)
  | .boolean => .int (I p k)
  | _ => mv G (rv (R p k))
/-- array tags: 2 int, 3 byte, 4 long, 5 of streets -/
def ev (G : aG) (I : Nat → Nat → Int32) (L : Nat → Nat → Int64) (R : Nat → Nat → Nat) (t p j : Nat) : Value := match t with
  | 2 => .int (I p j)
  | 3 => .int (I p j)
  | 4 => .long (L p j)
  | _ => mv G (rv (R p j))
def obA (G : aG) (I : Nat → Nat → Int32) (R : Nat → Nat → Nat) (H : Heap) (p ci : Nat) : Prop :=
  ∃ r, aC[ci]? = some r ∧ ∃ cell : Cell, H[ad G p]? = some cell ∧ cell.cls = G.1.1 ci ∧ cell.vm = .none ∧ ∀ k, k < r.1.2.2 → cell.slots[G.1.2 ci k]? = some (fv G I R p (r.2 k) k)
def arA (G : aG) (I : Nat → Nat → Int32) (L : Nat → Nat → Int64) (R : Nat → Nat → Nat) (H : Heap) (p t n : Nat) : Prop := H[ad G p]? = some (arrV (G.2.1 t) n (fun j => ev G I L R t p j))
def cellA (G : aG) (h : aH) (H : Heap) (p : Nat) : Prop := match h.1 p with
  | (0, _) => True
  | (1, ci) => obA G h.2.1 h.2.2.2.1 H p ci
  | (t + 2, n) => arA G h.2.1 h.2.2.1 h.2.2.2.1 H p (t + 2) n
def Rep (G : aG) (h : aH) (H : Heap) : Prop :=
  (∀ p, cellA G h H p) ∧ (∀ p, (h.1 p).1 ≠ 0 → 200 ≤ p) ∧ (200 ≤ h.2.2.2.2 → H.size = G.2.2.1 + (h.2.2.2.2 - 200)) ∧ G.2.2.1 ≤ H.size
/-- what is said of the constants, by lists: static fields, objects, their fields, arrays, texts -/
abbrev aS : Type := List (String × String × String × Value) × List (Nat × String) × List (Nat × String × String × String × Value) × List (Nat × FieldType × Nat × (Nat → Value)) × List (String × Nat × String × Nat) × List (String × String)
def isNest : Cond → Bool
  | .methodLinkNest _ _ _ _ => true
  | .declares _ => true
  | .castable _ _ => true
  | _ => false
theorem cast_warm {A a' : Array Value} {s U : State} {x y : String} (hW : s.WarmedH U.vm) (h : (Cond.castable x y).before A s = true) : (Cond.castable x y).before a' U = true := by
  simp only [Cond.before, Cond.holds, Cond.value, hW.alike.findClass, hW.alike.assignable] at h ⊢
  exact h
/-- the tables' words, of any arguments -/
def TW (U : State) : Prop := ∀ w ∈ lw_tbl, (goodWord w || isNest w) = true → ∀ a : Array Value, w.before a U = true
theorem TW.warm {s U : State} (hW : s.WarmedH U.vm) (h : TW s) : TW U := by
  intro w hw hg a
  cases hg1 : goodWord w with
  | true => exact word_at hW (good_of_word hg1) (h w hw hg #[])
  | false =>
    rw [hg1] at hg
    cases w with
    | methodLinkNest x i y z => exact va_Nw.use rfl (va_Nw.warmM hW (va_Nw.of rfl (h _ hw (by rw [hg1]; exact hg) #[])))
    | declares x => exact va_Nw.use rfl (va_Nw.warmD hW (va_Nw.of rfl (h _ hw (by rw [hg1]; exact hg) #[])))
    | castable x y => exact cast_warm hW (h _ hw (by rw [hg1]; exact hg) #[])
    | _ => exact absurd hg (by simp [isNest])
def tagTy : Nat → FieldType
  | 2 => .int
  | 3 => .byte
  | 4 => .long
  | _ => .object RX5
def SW (S : aS) (G : aG) (U : State) : Prop :=
  (∀ (ci : Nat) (r : vw_C × (Nat → FieldType)), aC[ci]? = some r → u_Kn U r.1.1 r.1.2.1 r.1.2.2 (G.1.1 ci) (G.1.2 ci)) ∧
  (∀ t, t < 4 → ArrOfT U (G.2.1 (t + 2)) (tagTy (t + 2)) ∧ va_RA U (G.2.1 (t + 2)) (tagTy (t + 2))) ∧
  TW U ∧
  ((vx_Zq Bundle.tN "UNASSIGNED_STACK" Bundle.steD (aA G) U U.heap ∧ vx_Zq Bundle.tN "SUPPRESSED_SENTINEL" Bundle.listD (aA G) U U.heap) ∧
  (∀ r ∈ S.1, va_Z r.1 r.2.1 r.2.2.1 (mv G r.2.2.2) (aA G) U U.heap) ∧
  (∀ r ∈ S.2.1, va_O r.2 (ad G r.1) (aA G) U U.heap) ∧
  (∀ r ∈ S.2.2.1, va_OF r.2.1 r.2.2.1 r.2.2.2.1 (mv G r.2.2.2.2) (ad G r.1) (aA G) U U.heap) ∧
  (∀ r ∈ S.2.2.2.1, va_T r.2.1 (ad G r.1) r.2.2.1 (fun j => mv G (r.2.2.2 j)) (aA G) U U.heap)) ∧
  (∀ r ∈ S.2.2.2.2.1, vk_R r.1 r.2.1 r.2.2.1 (ad G r.2.2.2) U) ∧ (∀ r ∈ S.2.2.2.2.2, va_Nc r.1 r.2 U) ∧
  (∀ r r' : Nat × String, r ∈ S.2.1 → r' ∈ S.2.1 → ad G r.1 = ad G r'.1 → r.1 = r'.1) ∧ va_AO RX5 U
theorem SW.go {S : aS} {G : aG} {s U : State} (hW : s.WarmedH U.vm) (hF : ∀ q : Nat, q < s.heap.size → ¬ aA G q → U.heap[q]? = s.heap[q]?) (h : SW S G s) : SW S G U := by
  obtain ⟨h1, h2, h3, ⟨⟨h4, h5⟩, h6, h7, h8, h9⟩, h10, h12, h11, h13⟩ := h
  refine ⟨fun ci r hr => u_Kn_moved hW.alike (h1 ci r hr), fun t ht => ⟨arrOfT_moved hW.alike (h2 t ht).1, (h2 t ht).2.moved hW.alike⟩, h3.warm hW, ⟨⟨?_, ?_⟩, fun r hr => ?_, fun r hr => ?_, fun r hr => ?_, fun r hr => ?_⟩, fun r hr => (h10 r hr).warm hW, fun r hr => (h12 r hr).moved hW.alike, h11, h13.moved hW.alike⟩
  · exact (h4.moved hW.alike).kept hF
  · exact (h5.moved hW.alike).kept hF
  · exact ((h6 r hr).moved hW.alike).kept hF
  · exact ((h7 r hr).moved hW.alike).kept hF
  · exact ((h8 r hr).moved hW.alike).kept hF
  · exact ((h9 r hr).moved hW.alike).kept hF
/-- an instruction's length (0: a switch) -/
def ilen : Instr → Nat
  | .bipush _ => 2
  | .sipush _ => 3
  | .iload _ => 2
  | .lload _ => 2
  | .aload _ => 2
  | .istore _ => 2
  | .lstore _ => 2
  | .astore _ => 2
  | .ldc _ => 2
  | .ldc_w _ => 3
  | .ldc2_w _ => 3
  | .iinc _ _ => 3
  | .goto _ => 3
  | .ifCond _ _ => 3
  | .if_icmp _ _ => 3
  | .if_acmp _ _ => 3
  | .ifnull _ => 3
  | .ifnonnull _ => 3
  | .getfield _ => 3
  | .putfield _ => 3
  | .getstatic _ => 3
  | .invokevirtual _ => 3
  | .invokespecial _ => 3
  | .invokestatic _ => 3
  | .new _ => 3
  | .newarray _ => 2
  | .anewarray _ => 3
  | .tableswitch _ _ _ _ => 0
  | .lookupswitch _ _ => 0
  | _ => 1
/-- a row of the code is what the bytes say -/
def okX (pc : Nat) (e : Instr × Nat × Nat × Int32) : Bool := match e.1 with
  | .goto off => decide ((pc : Int) + off = (e.2.2.1 : Int))
  | .ifCond _ off => decide ((pc : Int) + off = (e.2.2.1 : Int))
  | .if_icmp _ off => decide ((pc : Int) + off = (e.2.2.1 : Int))
  | .if_acmp _ off => decide ((pc : Int) + off = (e.2.2.1 : Int))
  | .ifnull off => decide ((pc : Int) + off = (e.2.2.1 : Int))
  | .ifnonnull off => decide ((pc : Int) + off = (e.2.2.1 : Int))
  | .iconst n => decide (Int32.ofInt n = e.2.2.2)
  | .bipush n => decide ((Int8.ofInt n).toInt32 = e.2.2.2)
  | .sipush n => decide ((Int16.ofInt n).toInt32 = e.2.2.2)
  | .iinc _ n => decide (Int32.ofInt n = e.2.2.2)
  | _ => true
def okE (C : aM) (e : aE) : Bool := decide (decode C.2.1 e.1 = .ok (e.2.1, e.2.2.1 - e.1)) && (Nat.ble e.1 e.2.2.1 && ((Nat.beq (ilen e.2.1) 0 || Nat.beq (e.1 + ilen e.2.1) e.2.2.1) && okX e.1 e.2))
def OkE (C : aM) (pc : Nat) (e : Instr × Nat × Nat × Int32) : Prop := (ilen e.1 = 0 ∨ (decode C.2.1 pc = .ok (e.1, ilen e.1) ∧ e.2.1 = pc + ilen e.1)) ∧ decode C.2.1 pc = .ok (e.1, e.2.1 - pc) ∧ okX pc e = true
def OkM (C : aM) : Prop := ∀ pc e, look C pc = some e → OkE C pc e
theorem okE_spec {C : aM} {e : aE} (h : okE C e = true) : OkE C e.1 e.2 := by
  simp only [okE, Bool.and_eq_true, decide_eq_true_eq] at h
  obtain ⟨h1, h2, h3, h4⟩ := h
  refine ⟨?_, h1, h4⟩
  rcases Bool.or_eq_true_iff.mp h3 with h3 | h3
  · exact Or.inl (Nat.eq_of_beq_eq_true h3)
  · have h5 := Nat.eq_of_beq_eq_true h3
    refine Or.inr ⟨?_, h5.symm⟩
    rw [h1, show e.2.2.1 - e.1 = ilen e.2.1 by omega]
theorem lookIn_mem {pc : Nat} {l : List aE} {e : Instr × Nat × Nat × Int32} (h : lookIn pc l = some e) : (pc, e) ∈ l := by
  induction l with
  | nil => simp [lookIn] at h
  | cons a r ih =>
    cases hb : Nat.beq a.1 pc with
    | true =>
      have := Nat.eq_of_beq_eq_true hb
      simp only [lookIn, hb] at h
      cases h
      subst this
      exact List.mem_cons_self
    | false =>
      simp only [lookIn, hb] at h
      exact List.mem_cons_of_mem _ (ih h)
theorem nth_mem {c : List (List aE)} {n : Nat} {e : aE} (h : e ∈ nth c n) : ∃ r ∈ c, e ∈ r := by
  induction c generalizing n with
  | nil => simp [nth] at h
  | cons a r ih =>
    cases n with
    | zero => exact ⟨a, List.mem_cons_self, h⟩
    | succ n =>
      obtain ⟨q, hq, he⟩ := ih (n := n) h
      exact ⟨q, List.mem_cons_of_mem _ hq, he⟩
theorem okM_of {C : aM} (h : C.2.2.2.2.2.all (fun r => r.all (okE C)) = true) : OkM C := by
  intro pc e he
  obtain ⟨r, hr, he'⟩ := nth_mem (lookIn_mem he)
  exact okE_spec (e := (pc, e)) (List.all_eq_true.mp (List.all_eq_true.mp h r hr) _ he')
/-- a method's only word -/
def mW (C : aM) : Cond := match C.2.2.2.2.1 with
  | [] => .code C.1 C.2.1 C.2.2.1 C.2.2.2.1
  | hh => .codeWith C.1 C.2.1 C.2.2.1 C.2.2.2.1 hh
def rmD (d mc ms : Nat) : Room := { frames := d + 998, cells := mc, slots := ms, locals := 80 * d }
def QcM (G : aG) (Q : Option Value → aH → Prop) : Array Value → State → Outcome → State → Prop := fun _ st o t =>
  ∃ v h', o = .returned (Option.map (mv G) v) ∧ Q v h' ∧ Rep G h' t.heap ∧ va_F (aA G) st t
def XcM (G : aG) (X : String → aH → Prop) : String → State → State → Prop := fun E st t => ∃ h', X E h' ∧ Rep G h' t.heap ∧ va_F (aA G) st t
def PcM (S : aS) (G : aG) (args : List Value) (h : aH) : Array Value → State → Prop := fun v U => v = (args.map (mv G)).toArray ∧ Rep G h U.heap ∧ SW S G U
/-- A METHOD'S CONTRACT: called with these arguments in this heap, d frames deep at most, it makes k1 cells of k2 slots at most and ends so -/
def Sp (S : aS) (C : aM) (d k1 k2 : Nat) (args : List Value) (h : aH) (Q : Option Value → aH → Prop) (X : String → aH → Prop) : Prop :=
  ∀ (l : Launch) (G : aG), l.stackTraces = false → vx_Met l C.1 [mW C] (rmD d k1 k2) (PcM S G args h) (QcM G Q) (XcM G X) k1 k2 (aA G)
def lg : List (Option Value) → Nat → Option Value
  | [], _ => none
  | a :: _, 0 => a
  | _ :: r, n + 1 => lg r n
def HL (G : aG) (la : Array Slot) (nL : Nat) (ls : List (Option Value)) : Prop := la.size = nL ∧ lv_wf la ∧ ∀ (i : Nat) (v : Value), lg ls i = some v → la[i]? = some (Slot.val (mv G v))
def CX (C : aM) (l : Launch) (p : Program) (s : State) (m : MethodId) (meth : Method) (c : Code) : Prop :=
  p.tables.exec = Jvm.exec ∧ c.code = C.2.1 ∧ meth.sig.returnType = C.2.2.2.1 ∧ meth.locks = false ∧ c.maxLocals = C.2.2.1 ∧ s.vm.findClass C.1.cls = some m.cls ∧ meth.name = C.1.name ∧ l.stackTraces = false ∧ c.exceptionTable.toList = tableOf C.2.2.2.2.1 ∧ OkM C
/-- THE JUDGEMENT: from pc, with these locals, stack, heap, it ends with Q or throws with X -/
def AW (S : aS) (C : aM) (d : Nat) (Q : Option Value → aH → Prop) (X : String → aH → Prop) (k1 k2 pc : Nat) (ls : List (Option Value)) (st : List Value) (h : aH) : Prop :=
  ∀ (p : Program) (l : Launch) (e : Env) (s : State) (m : MethodId) (args : Array Value) (below : List Frame) (meth : Method) (c : Code) (H : Heap) (la : Array Slot) (locs : List Loc) (cells slots mc ms : Nat) (G : aG),
    CX C l p s m meth c → SW S G s → HL G la C.2.2.1 ls → Rep G h H → va_S (aA G) s.heap H locs → cells + k1 ≤ mc → slots + k2 ≤ ms →
    W p l e (rmD d mc ms) s m args below meth c H locs cells slots (vx_MQ below (QcM G Q) (XcM G X) args s mc ms (aA G)) (F0 m pc la (st.map (mv G)))
/-! ===== words that the printed parts speak of ===== -/
def isRefTy : FieldType → Bool
  | .object _ => true
  | .array _ => true
  | _ => false
def isIntTy : FieldType → Bool
  | .int => true
  | .boolean => true
  | _ => false
/-- a class of places: its words stand in the tables, its names are apart, its types are the table's -/
def aOk (r : vw_C × (Nat → FieldType)) : Prop := (∀ w ∈ u_ws r.1.1 r.1.2.1 r.1.2.2, w ∈ lw_tbl ∧ goodWord w = true) ∧ (∀ a, a < r.1.2.2 → ∀ b, b < r.1.2.2 → a ≠ b → (r.1.2.1 a).2.1 ≠ (r.1.2.1 b).2.1) ∧ ∀ k, k < r.1.2.2 → parseFieldDescriptor (r.1.2.1 k).2.2.1 = some (r.2 k)
/-- the pool entry idx of class own is the field k of the class ci -/
def LF (own : String) (idx ci k : Nat) (r : vw_C × (Nat → FieldType)) : Prop := aC[ci]? = some r ∧ aOk r ∧ k < r.1.2.2 ∧ ∃ ref : String, (Cond.fieldLink own idx ref (r.1.2.1 k).2.1 (r.1.2.1 k).2.2.1 ∈ lw_tbl) ∧
  (ref = (r.1.2.1 k).1 ∨ Cond.sameField ref (r.1.2.1 k).1 (r.1.2.1 k).2.1 (r.1.2.1 k).2.2.1 ∈ lw_tbl)
def LFi (own : String) (idx ci k : Nat) : Prop := ∃ r, LF own idx ci k r ∧ isIntTy (r.2 k) = true
def LFr (own : String) (idx ci k : Nat) : Prop := ∃ r, LF own idx ci k r ∧ isRefTy (r.2 k) = true
def LFp (own nm : String) (idx ci k : Nat) (r : vw_C × (Nat → FieldType)) : Prop := LF own idx ci k r ∧ ((r.1.2.1 k).2.2.2 = false ∨ ((r.1.2.1 k).2.2.2 = true ∧ nm = "<init>" ∧ (r.1.2.1 k).1 = own))
def LPi (own nm : String) (idx ci k : Nat) : Prop := ∃ r, LFp own nm idx ci k r ∧ r.2 k = .int
def LPz (own nm : String) (idx ci k : Nat) : Prop := ∃ r, LFp own nm idx ci k r ∧ r.2 k = .boolean
def LPr (own nm : String) (idx ci k : Nat) : Prop := ∃ r, LFp own nm idx ci k r ∧ isRefTy (r.2 k) = true
def okM (C : aM) : Bool := plainName C.1.cls && C.2.2.2.2.2.all (fun r => r.all (okE C))
def inX (w : Cond) : Prop := w ∈ lw_tbl ∧ (goodWord w || isNest w) = true
def inT (w : Cond) : Prop := w ∈ lw_tbl ∧ goodWord w = true
/-- a method as its callers know it -/
def MO (C : aM) (n : Nat) : Prop := C.2.2.2.2.1 = [] ∧ inT (.code C.1 C.2.1 C.2.2.1 C.2.2.2.1) ∧ inT (.initialized C.1.cls) ∧ (C.1.cls ≠ "java/lang/invoke/MethodHandle" ∧ C.1.cls ≠ "java/lang/invoke/VarHandle" ∧ (parseMethodDescriptor C.1.desc).map (fun d => d.parameters.length) = some n) ∧ C.2.2.1 ≤ 60
def MOv (C : aM) (n : Nat) : Prop := MO C n ∧ inT (.instanceMethod C.1) ∧ inT (.selects C.1.cls C.1 C.1)
def MOs (C : aM) (n : Nat) : Prop := MO C n ∧ inT (.static C.1)
def MOi (C : aM) (n : Nat) : Prop := MO C n ∧ inT (.instanceMethod C.1) ∧ C.1.name = "<init>" ∧ C.2.2.2.1 = none
def MOw (C : aM) (n : Nat) : Prop := C.2.2.2.2.1 ≠ [] ∧ inT (.codeWith C.1 C.2.1 C.2.2.1 C.2.2.2.1 C.2.2.2.2.1) ∧ inT (.initialized C.1.cls) ∧ (C.1.cls ≠ "java/lang/invoke/MethodHandle" ∧ C.1.cls ≠ "java/lang/invoke/VarHandle" ∧ (parseMethodDescriptor C.1.desc).map (fun d => d.parameters.length) = some n) ∧ C.2.2.1 ≤ 60 ∧ inT (.static C.1)
/-- the pool entry idx of class own is that method: one's own class's or a public one; a nest mate's private one -/
def LK (own : String) (idx : Nat) (C : aM) : Prop := inT (.methodLink own idx C.1)
def LKn (own : String) (idx : Nat) (C : aM) : Prop := ∃ host, Cond.methodLinkNest own idx C.1 host ∈ lw_tbl
/-! words by their chunk and place -/
theorem inD1 {w : Cond} {i : Nat} (h : tables_1_1[i]? = some w) : w ∈ lw_tbl := List.mem_append_right _ (show w ∈ tables_1 from List.mem_append_left _ (List.mem_of_getElem? h))
theorem inC1 {w : Cond} {i : Nat} (h : tables_1_1[i]? = some w) (g : goodWord w = true) : inT w := ⟨inD1 h, g⟩
theorem inD2 {w : Cond} {i : Nat} (h : tables_1_2[i]? = some w) : w ∈ lw_tbl := List.mem_append_right _ (show w ∈ tables_1 from List.mem_append_right _ (List.mem_append_left _ (List.mem_of_getElem? h)))
theorem inC2 {w : Cond} {i : Nat} (h : tables_1_2[i]? = some w) (g : goodWord w = true) : inT w := ⟨inD2 h, g⟩
theorem inD3 {w : Cond} {i : Nat} (h : tables_1_3[i]? = some w) : w ∈ lw_tbl := List.mem_append_right _ (show w ∈ tables_1 from List.mem_append_right _ (List.mem_append_right _ (List.mem_append_left _ (List.mem_of_getElem? h))))
theorem inC3 {w : Cond} {i : Nat} (h : tables_1_3[i]? = some w) (g : goodWord w = true) : inT w := ⟨inD3 h, g⟩
theorem inD4 {w : Cond} {i : Nat} (h : tables_1_4[i]? = some w) : w ∈ lw_tbl := List.mem_append_right _ (show w ∈ tables_1 from List.mem_append_right _ (List.mem_append_right _ (List.mem_append_right _ (List.mem_append_left _ (List.mem_of_getElem? h)))))
theorem inC4 {w : Cond} {i : Nat} (h : tables_1_4[i]? = some w) (g : goodWord w = true) : inT w := ⟨inD4 h, g⟩
theorem inD5 {w : Cond} {i : Nat} (h : tables_1_5[i]? = some w) : w ∈ lw_tbl := List.mem_append_right _ (show w ∈ tables_1 from List.mem_append_right _ (List.mem_append_right _ (List.mem_append_right _ (List.mem_append_right _ (List.mem_append_left _ (List.mem_of_getElem? h))))))
theorem inC5 {w : Cond} {i : Nat} (h : tables_1_5[i]? = some w) (g : goodWord w = true) : inT w := ⟨inD5 h, g⟩
theorem inD6 {w : Cond} {i : Nat} (h : tables_1_6[i]? = some w) : w ∈ lw_tbl := List.mem_append_right _ (show w ∈ tables_1 from List.mem_append_right _ (List.mem_append_right _ (List.mem_append_right _ (List.mem_append_right _ (List.mem_append_right _ (List.mem_append_left _ (List.mem_of_getElem? h)))))))
theorem inC6 {w : Cond} {i : Nat} (h : tables_1_6[i]? = some w) (g : goodWord w = true) : inT w := ⟨inD6 h, g⟩
theorem inD7 {w : Cond} {i : Nat} (h : tables_1_7[i]? = some w) : w ∈ lw_tbl := List.mem_append_right _ (show w ∈ tables_1 from List.mem_append_right _ (List.mem_append_right _ (List.mem_append_right _ (List.mem_append_right _ (List.mem_append_right _ (List.mem_append_right _ (List.mem_append_left _ (List.mem_of_getElem? h))))))))
theorem inC7 {w : Cond} {i : Nat} (h : tables_1_7[i]? = some w) (g : goodWord w = true) : inT w := ⟨inD7 h, g⟩
theorem inD8 {w : Cond} {i : Nat} (h : tables_1_8[i]? = some w) : w ∈ lw_tbl := List.mem_append_right _ (show w ∈ tables_1 from List.mem_append_right _ (List.mem_append_right _ (List.mem_append_right _ (List.mem_append_right _ (List.mem_append_right _ (List.mem_append_right _ (List.mem_append_right _ (List.mem_append_left _ (List.mem_of_getElem? h)))))))))
theorem inC8 {w : Cond} {i : Nat} (h : tables_1_8[i]? = some w) (g : goodWord w = true) : inT w := ⟨inD8 h, g⟩
theorem inD9 {w : Cond} {i : Nat} (h : tables_1_9[i]? = some w) : w ∈ lw_tbl := List.mem_append_right _ (show w ∈ tables_1 from List.mem_append_right _ (List.mem_append_right _ (List.mem_append_right _ (List.mem_append_right _ (List.mem_append_right _ (List.mem_append_right _ (List.mem_append_right _ (List.mem_append_right _ (List.mem_append_left _ (List.mem_of_getElem? h))))))))))
theorem inC9 {w : Cond} {i : Nat} (h : tables_1_9[i]? = some w) (g : goodWord w = true) : inT w := ⟨inD9 h, g⟩
theorem inD10 {w : Cond} {i : Nat} (h : tables_1_10[i]? = some w) : w ∈ lw_tbl := List.mem_append_right _ (show w ∈ tables_1 from List.mem_append_right _ (List.mem_append_right _ (List.mem_append_right _ (List.mem_append_right _ (List.mem_append_right _ (List.mem_append_right _ (List.mem_append_right _ (List.mem_append_right _ (List.mem_append_right _ (List.mem_of_getElem? h))))))))))
theorem inC10 {w : Cond} {i : Nat} (h : tables_1_10[i]? = some w) (g : goodWord w = true) : inT w := ⟨inD10 h, g⟩
theorem inT2 {w : Cond} {i : Nat} (h : (k2_sels lw_privs)[i]? = some w) (g : goodWord w = true) : inT w := ⟨List.mem_append_left _ (List.mem_of_getElem? h), g⟩
end
section
/-! ===== a quick check that the rows are what the bytes say (printed by program) ===== -/
section T03b
set_option maxRecDepth 100000
/-- from a place on these bytes stand -/
def By (code : ByteArray) : Nat → List Nat → Prop
  | _, [] => True
  | p, b :: r => (∃ h : p < code.size, code[p].toNat = b) ∧ By code (p + 1) r
variable {code : ByteArray} {p q n : Nat}
theorem u1_run (h : p < code.size) : Reader.runAt (ε := DecodeError) Reader.u1 code p = .ok (code[p].toNat, p + 1) := by
  have e : (dite (p < code.size) (fun h => (do set (p + 1); pure code[p].toNat : Reader DecodeError Nat)) (fun _ => throw (HasTruncated.truncated p))) = (do set (p + 1); pure code[p].toNat : Reader DecodeError Nat) := dif_pos h
  show Reader.runAt (dite (p < code.size) (fun h => (do set (p + 1); pure code[p].toNat : Reader DecodeError Nat)) (fun _ => throw (HasTruncated.truncated p))) code p = _
  rw [e]
  rfl
theorem bind_run {α β : Type} {r : Reader DecodeError α} {f : α → Reader DecodeError β} {a : α} (h : Reader.runAt r code p = .ok (a, q)) : Reader.runAt (r >>= f) code p = Reader.runAt (f a) code q := by
  have h : r code p = .ok (a, q) := h
  show Except.bind (r code p) _ = _
  rw [h]
  rfl
theorem map_run {α β : Type} {r : Reader DecodeError α} {f : α → β} {a : α} (h : Reader.runAt r code p = .ok (a, q)) : Reader.runAt (f <$> r) code p = .ok (f a, q) := by
  have h : r code p = .ok (a, q) := h
  show Except.bind (r code p) _ = _
  rw [h]
  rfl
theorem u2_run (h0 : p < code.size) (h1 : p + 1 < code.size) : Reader.runAt (ε := DecodeError) Reader.u2 code p = .ok (code[p].toNat * 256 + code[p + 1].toNat, p + 1 + 1) := by
  unfold Reader.u2
  rw [bind_run (u1_run h0), bind_run (u1_run h1)]
  rfl
theorem dc_of {i : Instr} (h : Reader.runAt (Decoder.instr p) code p = .ok (i, p + n)) : decode code p = .ok (i, n) := by
  unfold decode
  rw [h]
  show Except.ok (i, p + n - p) = _
  rw [Nat.add_sub_cancel_left]
theorem sg8 {x : Int} (h : -128 ≤ x ∧ x ≤ 127) : Reader.signed 8 (x % 256).toNat = x := by
  unfold Reader.signed
  rw [show (2 : Nat) ^ (8 - 1) = 128 by decide, show ((2 ^ 8 : Nat) : Int) = 256 by decide]
  split <;> omega
theorem sg16 {x : Int} (h : -32768 ≤ x ∧ x ≤ 32767) : Reader.signed 16 ((x % 65536).toNat / 256 * 256 + (x % 65536).toNat % 256) = x := by
  unfold Reader.signed
  rw [show (2 : Nat) ^ (16 - 1) = 32768 by decide, show ((2 ^ 16 : Nat) : Int) = 65536 by decide]
  split <;> omega
/-- an operand of one byte with a sign, of two -/
def en1 (x : Int) (r : List Nat) : List Nat := if -128 ≤ x ∧ x ≤ 127 then r ++ [(x % 256).toNat] else []
def enk (x : Int) : List Nat := if x = -1 then [2] else if x = 0 then [3] else if x = 1 then [4] else if x = 2 then [5] else if x = 3 then [6] else if x = 4 then [7] else if x = 5 then [8] else []
def en2 (op : Nat) (x : Int) : List Nat := if -32768 ≤ x ∧ x ≤ 32767 then [op, (x % 65536).toNat / 256, (x % 65536).toNat % 256] else []
/-- the bytes of an instruction, of those that are known here -/
def enc : Instr → List Nat
  | .aaload => [50]
  | .aastore => [83]
  | .aconst_null => [1]
  | .areturn => [176]
  | .arraylength => [190]
  | .athrow => [191]
  | .baload => [51]
  | .bastore => [84]
  | .dup => [89]
  | .dup2 => [92]
  | .i2b => [145]
  | .i2c => [146]
  | .i2l => [133]
  | .iadd => [96]
  | .iaload => [46]
  | .iand => [126]
  | .iastore => [79]
  | .idiv => [108]
  | .imul => [104]
  | .ineg => [116]
  | .ior => [128]
  | .irem => [112]
  | .ireturn => [172]
  | .ishl => [120]
  | .ishr => [122]
  | .isub => [100]
  | .iushr => [124]
  | .ixor => [130]
  | .l2i => [136]
  | .ladd => [97]
  | .laload => [47]
  | .lastore => [80]
  | .lcmp => [148]
  | .ldiv => [109]
  | .lmul => [105]
  | .lreturn => [173]
  | .pop => [87]
  | .return_ => [177]
  | .aload_n k => [42 + k.val]
  | .astore_n k => [75 + k.val]
  | .iload_n k => [26 + k.val]
  | .istore_n k => [59 + k.val]
  | .lload_n k => [30 + k.val]
  | .lstore_n k => [63 + k.val]
  | .lconst k => [9 + k.val]
  | .iconst x => enk x
  | .aload x => [25, x]
  | .astore x => [58, x]
  | .iload x => [21, x]
  | .istore x => [54, x]
  | .lload x => [22, x]
  | .lstore x => [55, x]
  | .ldc x => [18, x]
  | .bipush x => en1 x [16]
  | .anewarray x => [189, x / 256, x % 256]
  | .getfield x => [180, x / 256, x % 256]
  | .getstatic x => [178, x / 256, x % 256]
  | .invokespecial x => [183, x / 256, x % 256]
  | .invokestatic x => [184, x / 256, x % 256]
  | .invokevirtual x => [182, x / 256, x % 256]
  | .ldc2_w x => [20, x / 256, x % 256]
  | .ldc_w x => [19, x / 256, x % 256]
  | .new x => [187, x / 256, x % 256]
  | .putfield x => [181, x / 256, x % 256]
  | .sipush x => en2 17 x
  | .goto x => en2 167 x
  | .ifnull x => en2 198 x
  | .ifnonnull x => en2 199 x
  | .ifCond .eq x => en2 153 x
  | .ifCond .ne x => en2 154 x
  | .ifCond .lt x => en2 155 x
  | .ifCond .ge x => en2 156 x
  | .ifCond .gt x => en2 157 x
  | .ifCond .le x => en2 158 x
  | .if_icmp .eq x => en2 159 x
  | .if_icmp .ne x => en2 160 x
  | .if_icmp .lt x => en2 161 x
  | .if_icmp .ge x => en2 162 x
  | .if_icmp .gt x => en2 163 x
  | .if_icmp .le x => en2 164 x
  | .if_acmp .eq x => en2 165 x
  | .if_acmp .ne x => en2 166 x
  | .iinc i x => en1 x [132, i]
  | .newarray .byte => [188, 8]
  | .newarray .int => [188, 10]
  | .newarray .long => [188, 11]
  | _ => []
theorem en_aaload (h : By code p [50]) : decode code p = .ok (.aaload, 1) := by
  obtain ⟨⟨h0, e0⟩, -⟩ := h
  refine dc_of (n := 1) ?_; unfold Decoder.instr; rw [bind_run (u1_run h0), e0]; rfl
theorem en_aastore (h : By code p [83]) : decode code p = .ok (.aastore, 1) := by
  obtain ⟨⟨h0, e0⟩, -⟩ := h
  refine dc_of (n := 1) ?_; unfold Decoder.instr; rw [bind_run (u1_run h0), e0]; rfl
theorem en_aconst_null (h : By code p [1]) : decode code p = .ok (.aconst_null, 1) := by
  obtain ⟨⟨h0, e0⟩, -⟩ := h
  refine dc_of (n := 1) ?_; unfold Decoder.instr; rw [bind_run (u1_run h0), e0]; rfl
theorem en_areturn (h : By code p [176]) : decode code p = .ok (.areturn, 1) := by
  obtain ⟨⟨h0, e0⟩, -⟩ := h
  refine dc_of (n := 1) ?_; unfold Decoder.instr; rw [bind_run (u1_run h0), e0]; rfl
theorem en_arraylength (h : By code p [190]) : decode code p = .ok (.arraylength, 1) := by
  obtain ⟨⟨h0, e0⟩, -⟩ := h
  refine dc_of (n := 1) ?_; unfold Decoder.instr; rw [bind_run (u1_run h0), e0]; rfl
theorem en_athrow (h : By code p [191]) : decode code p = .ok (.athrow, 1) := by
  obtain ⟨⟨h0, e0⟩, -⟩ := h
  refine dc_of (n := 1) ?_; unfold Decoder.instr; rw [bind_run (u1_run h0), e0]; rfl
theorem en_baload (h : By code p [51]) : decode code p = .ok (.baload, 1) := by
  obtain ⟨⟨h0, e0⟩, -⟩ := h
  refine dc_of (n := 1) ?_; unfold Decoder.instr; rw [bind_run (u1_run h0), e0]; rfl
theorem en_bastore (h : By code p [84]) : decode code p = .ok (.bastore, 1) := by
  obtain ⟨⟨h0, e0⟩, -⟩ := h
  refine dc_of (n := 1) ?_; unfold Decoder.instr; rw [bind_run (u1_run h0), e0]; rfl
theorem en_dup (h : By code p [89]) : decode code p = .ok (.dup, 1) := by
  obtain ⟨⟨h0, e0⟩, -⟩ := h
  refine dc_of (n := 1) ?_; unfold Decoder.instr; rw [bind_run (u1_run h0), e0]; rfl
theorem en_dup2 (h : By code p [92]) : decode code p = .ok (.dup2, 1) := by
  obtain ⟨⟨h0, e0⟩, -⟩ := h
  refine dc_of (n := 1) ?_; unfold Decoder.instr; rw [bind_run (u1_run h0), e0]; rfl
theorem en_i2b (h : By code p [145]) : decode code p = .ok (.i2b, 1) := by
  obtain ⟨⟨h0, e0⟩, -⟩ := h
  refine dc_of (n := 1) ?_; unfold Decoder.instr; rw [bind_run (u1_run h0), e0]; rfl
theorem en_i2c (h : By code p [146]) : decode code p = .ok (.i2c, 1) := by
  obtain ⟨⟨h0, e0⟩, -⟩ := h
  refine dc_of (n := 1) ?_; unfold Decoder.instr; rw [bind_run (u1_run h0), e0]; rfl
theorem en_i2l (h : By code p [133]) : decode code p = .ok (.i2l, 1) := by
  obtain ⟨⟨h0, e0⟩, -⟩ := h
  refine dc_of (n := 1) ?_; unfold Decoder.instr; rw [bind_run (u1_run h0), e0]; rfl
theorem en_iadd (h : By code p [96]) : decode code p = .ok (.iadd, 1) := by
  obtain ⟨⟨h0, e0⟩, -⟩ := h
  refine dc_of (n := 1) ?_; unfold Decoder.instr; rw [bind_run (u1_run h0), e0]; rfl
theorem en_iaload (h : By code p [46]) : decode code p = .ok (.iaload, 1) := by
  obtain ⟨⟨h0, e0⟩, -⟩ := h
  refine dc_of (n := 1) ?_; unfold Decoder.instr; rw [bind_run (u1_run h0), e0]; rfl
theorem en_iand (h : By code p [126]) : decode code p = .ok (.iand, 1) := by
  obtain ⟨⟨h0, e0⟩, -⟩ := h
  refine dc_of (n := 1) ?_; unfold Decoder.instr; rw [bind_run (u1_run h0), e0]; rfl
theorem en_iastore (h : By code p [79]) : decode code p = .ok (.iastore, 1) := by
  obtain ⟨⟨h0, e0⟩, -⟩ := h
  refine dc_of (n := 1) ?_; unfold Decoder.instr; rw [bind_run (u1_run h0), e0]; rfl
theorem en_idiv (h : By code p [108]) : decode code p = .ok (.idiv, 1) := by
  obtain ⟨⟨h0, e0⟩, -⟩ := h
  refine dc_of (n := 1) ?_; unfold Decoder.instr; rw [bind_run (u1_run h0), e0]; rfl
theorem en_imul (h : By code p [104]) : decode code p = .ok (.imul, 1) := by
  obtain ⟨⟨h0, e0⟩, -⟩ := h
  refine dc_of (n := 1) ?_; unfold Decoder.instr; rw [bind_run (u1_run h0), e0]; rfl
theorem en_ineg (h : By code p [116]) : decode code p = .ok (.ineg, 1) := by
  obtain ⟨⟨h0, e0⟩, -⟩ := h
  refine dc_of (n := 1) ?_; unfold Decoder.instr; rw [bind_run (u1_run h0), e0]; rfl
theorem en_ior (h : By code p [128]) : decode code p = .ok (.ior, 1) := by
  obtain ⟨⟨h0, e0⟩, -⟩ := h
  refine dc_of (n := 1) ?_; unfold Decoder.instr; rw [bind_run (u1_run h0), e0]; rfl
theorem en_irem (h : By code p [112]) : decode code p = .ok (.irem, 1) := by
  obtain ⟨⟨h0, e0⟩, -⟩ := h
  refine dc_of (n := 1) ?_; unfold Decoder.instr; rw [bind_run (u1_run h0), e0]; rfl
theorem en_ireturn (h : By code p [172]) : decode code p = .ok (.ireturn, 1) := by
  obtain ⟨⟨h0, e0⟩, -⟩ := h
  refine dc_of (n := 1) ?_; unfold Decoder.instr; rw [bind_run (u1_run h0), e0]; rfl
theorem en_ishl (h : By code p [120]) : decode code p = .ok (.ishl, 1) := by
  obtain ⟨⟨h0, e0⟩, -⟩ := h
  refine dc_of (n := 1) ?_; unfold Decoder.instr; rw [bind_run (u1_run h0), e0]; rfl
theorem en_ishr (h : By code p [122]) : decode code p = .ok (.ishr, 1) := by
  obtain ⟨⟨h0, e0⟩, -⟩ := h
  refine dc_of (n := 1) ?_; unfold Decoder.instr; rw [bind_run (u1_run h0), e0]; rfl
theorem en_isub (h : By code p [100]) : decode code p = .ok (.isub, 1) := by
  obtain ⟨⟨h0, e0⟩, -⟩ := h
  refine dc_of (n := 1) ?_; unfold Decoder.instr; rw [bind_run (u1_run h0), e0]; rfl
theorem en_iushr (h : By code p [124]) : decode code p = .ok (.iushr, 1) := by
  obtain ⟨⟨h0, e0⟩, -⟩ := h
  refine dc_of (n := 1) ?_; unfold Decoder.instr; rw [bind_run (u1_run h0), e0]; rfl
theorem en_ixor (h : By code p [130]) : decode code p = .ok (.ixor, 1) := by
  obtain ⟨⟨h0, e0⟩, -⟩ := h
  refine dc_of (n := 1) ?_; unfold Decoder.instr; rw [bind_run (u1_run h0), e0]; rfl
theorem en_l2i (h : By code p [136]) : decode code p = .ok (.l2i, 1) := by
  obtain ⟨⟨h0, e0⟩, -⟩ := h
  refine dc_of (n := 1) ?_; unfold Decoder.instr; rw [bind_run (u1_run h0), e0]; rfl
theorem en_ladd (h : By code p [97]) : decode code p = .ok (.ladd, 1) := by
  obtain ⟨⟨h0, e0⟩, -⟩ := h
  refine dc_of (n := 1) ?_; unfold Decoder.instr; rw [bind_run (u1_run h0), e0]; rfl
theorem en_laload (h : By code p [47]) : decode code p = .ok (.laload, 1) := by
  obtain ⟨⟨h0, e0⟩, -⟩ := h
  refine dc_of (n := 1) ?_; unfold Decoder.instr; rw [bind_run (u1_run h0), e0]; rfl
theorem en_lastore (h : By code p [80]) : decode code p = .ok (.lastore, 1) := by
  obtain ⟨⟨h0, e0⟩, -⟩ := h
  refine dc_of (n := 1) ?_; unfold Decoder.instr; rw [bind_run (u1_run h0), e0]; rfl
theorem en_lcmp (h : By code p [148]) : decode code p = .ok (.lcmp, 1) := by
  obtain ⟨⟨h0, e0⟩, -⟩ := h
  refine dc_of (n := 1) ?_; unfold Decoder.instr; rw [bind_run (u1_run h0), e0]; rfl
theorem en_ldiv (h : By code p [109]) : decode code p = .ok (.ldiv, 1) := by
  obtain ⟨⟨h0, e0⟩, -⟩ := h
  refine dc_of (n := 1) ?_; unfold Decoder.instr; rw [bind_run (u1_run h0), e0]; rfl
theorem en_lmul (h : By code p [105]) : decode code p = .ok (.lmul, 1) := by
  obtain ⟨⟨h0, e0⟩, -⟩ := h
  refine dc_of (n := 1) ?_; unfold Decoder.instr; rw [bind_run (u1_run h0), e0]; rfl
theorem en_lreturn (h : By code p [173]) : decode code p = .ok (.lreturn, 1) := by
  obtain ⟨⟨h0, e0⟩, -⟩ := h
  refine dc_of (n := 1) ?_; unfold Decoder.instr; rw [bind_run (u1_run h0), e0]; rfl
theorem en_pop (h : By code p [87]) : decode code p = .ok (.pop, 1) := by
  obtain ⟨⟨h0, e0⟩, -⟩ := h
  refine dc_of (n := 1) ?_; unfold Decoder.instr; rw [bind_run (u1_run h0), e0]; rfl
theorem en_return_ (h : By code p [177]) : decode code p = .ok (.return_, 1) := by
  obtain ⟨⟨h0, e0⟩, -⟩ := h
  refine dc_of (n := 1) ?_; unfold Decoder.instr; rw [bind_run (u1_run h0), e0]; rfl
theorem en_aload_n_0 (h : By code p [42]) : decode code p = .ok (.aload_n 0, 1) := by
  obtain ⟨⟨h0, e0⟩, -⟩ := h
  refine dc_of (n := 1) ?_; unfold Decoder.instr; rw [bind_run (u1_run h0), e0]; rfl
theorem en_aload_n_1 (h : By code p [43]) : decode code p = .ok (.aload_n 1, 1) := by
  obtain ⟨⟨h0, e0⟩, -⟩ := h
  refine dc_of (n := 1) ?_; unfold Decoder.instr; rw [bind_run (u1_run h0), e0]; rfl
theorem en_aload_n_2 (h : By code p [44]) : decode code p = .ok (.aload_n 2, 1) := by
  obtain ⟨⟨h0, e0⟩, -⟩ := h
  refine dc_of (n := 1) ?_; unfold Decoder.instr; rw [bind_run (u1_run h0), e0]; rfl
theorem en_aload_n_3 (h : By code p [45]) : decode code p = .ok (.aload_n 3, 1) := by
  obtain ⟨⟨h0, e0⟩, -⟩ := h
  refine dc_of (n := 1) ?_; unfold Decoder.instr; rw [bind_run (u1_run h0), e0]; rfl
theorem en_astore_n_0 (h : By code p [75]) : decode code p = .ok (.astore_n 0, 1) := by
  obtain ⟨⟨h0, e0⟩, -⟩ := h
  refine dc_of (n := 1) ?_; unfold Decoder.instr; rw [bind_run (u1_run h0), e0]; rfl
theorem en_astore_n_1 (h : By code p [76]) : decode code p = .ok (.astore_n 1, 1) := by
  obtain ⟨⟨h0, e0⟩, -⟩ := h
  refine dc_of (n := 1) ?_; unfold Decoder.instr; rw [bind_run (u1_run h0), e0]; rfl
theorem en_astore_n_2 (h : By code p [77]) : decode code p = .ok (.astore_n 2, 1) := by
  obtain ⟨⟨h0, e0⟩, -⟩ := h
  refine dc_of (n := 1) ?_; unfold Decoder.instr; rw [bind_run (u1_run h0), e0]; rfl
theorem en_astore_n_3 (h : By code p [78]) : decode code p = .ok (.astore_n 3, 1) := by
  obtain ⟨⟨h0, e0⟩, -⟩ := h
  refine dc_of (n := 1) ?_; unfold Decoder.instr; rw [bind_run (u1_run h0), e0]; rfl
theorem en_iload_n_0 (h : By code p [26]) : decode code p = .ok (.iload_n 0, 1) := by
  obtain ⟨⟨h0, e0⟩, -⟩ := h
  refine dc_of (n := 1) ?_; unfold Decoder.instr; rw [bind_run (u1_run h0), e0]; rfl
theorem en_iload_n_1 (h : By code p [27]) : decode code p = .ok (.iload_n 1, 1) := by
  obtain ⟨⟨h0, e0⟩, -⟩ := h
  refine dc_of (n := 1) ?_; unfold Decoder.instr; rw [bind_run (u1_run h0), e0]; rfl
theorem en_iload_n_2 (h : By code p [28]) : decode code p = .ok (.iload_n 2, 1) := by
  obtain ⟨⟨h0, e0⟩, -⟩ := h
  refine dc_of (n := 1) ?_; unfold Decoder.instr; rw [bind_run (u1_run h0), e0]; rfl
theorem en_iload_n_3 (h : By code p [29]) : decode code p = .ok (.iload_n 3, 1) := by
  obtain ⟨⟨h0, e0⟩, -⟩ := h
  refine dc_of (n := 1) ?_; unfold Decoder.instr; rw [bind_run (u1_run h0), e0]; rfl
theorem en_istore_n_0 (h : By code p [59]) : decode code p = .ok (.istore_n 0, 1) := by
  obtain ⟨⟨h0, e0⟩, -⟩ := h
  refine dc_of (n := 1) ?_; unfold Decoder.instr; rw [bind_run (u1_run h0), e0]; rfl
theorem en_istore_n_1 (h : By code p [60]) : decode code p = .ok (.istore_n 1, 1) := by
  obtain ⟨⟨h0, e0⟩, -⟩ := h
  refine dc_of (n := 1) ?_; unfold Decoder.instr; rw [bind_run (u1_run h0), e0]; rfl
theorem en_istore_n_2 (h : By code p [61]) : decode code p = .ok (.istore_n 2, 1) := by
  obtain ⟨⟨h0, e0⟩, -⟩ := h
  refine dc_of (n := 1) ?_; unfold Decoder.instr; rw [bind_run (u1_run h0), e0]; rfl
theorem en_istore_n_3 (h : By code p [62]) : decode code p = .ok (.istore_n 3, 1) := by
  obtain ⟨⟨h0, e0⟩, -⟩ := h
  refine dc_of (n := 1) ?_; unfold Decoder.instr; rw [bind_run (u1_run h0), e0]; rfl
theorem en_lload_n_0 (h : By code p [30]) : decode code p = .ok (.lload_n 0, 1) := by
  obtain ⟨⟨h0, e0⟩, -⟩ := h
  refine dc_of (n := 1) ?_; unfold Decoder.instr; rw [bind_run (u1_run h0), e0]; rfl
theorem en_lload_n_1 (h : By code p [31]) : decode code p = .ok (.lload_n 1, 1) := by
  obtain ⟨⟨h0, e0⟩, -⟩ := h
  refine dc_of (n := 1) ?_; unfold Decoder.instr; rw [bind_run (u1_run h0), e0]; rfl
theorem en_lload_n_2 (h : By code p [32]) : decode code p = .ok (.lload_n 2, 1) := by
  obtain ⟨⟨h0, e0⟩, -⟩ := h
  refine dc_of (n := 1) ?_; unfold Decoder.instr; rw [bind_run (u1_run h0), e0]; rfl
theorem en_lload_n_3 (h : By code p [33]) : decode code p = .ok (.lload_n 3, 1) := by
  obtain ⟨⟨h0, e0⟩, -⟩ := h
  refine dc_of (n := 1) ?_; unfold Decoder.instr; rw [bind_run (u1_run h0), e0]; rfl
theorem en_lstore_n_0 (h : By code p [63]) : decode code p = .ok (.lstore_n 0, 1) := by
  obtain ⟨⟨h0, e0⟩, -⟩ := h
  refine dc_of (n := 1) ?_; unfold Decoder.instr; rw [bind_run (u1_run h0), e0]; rfl
theorem en_lstore_n_1 (h : By code p [64]) : decode code p = .ok (.lstore_n 1, 1) := by
  obtain ⟨⟨h0, e0⟩, -⟩ := h
  refine dc_of (n := 1) ?_; unfold Decoder.instr; rw [bind_run (u1_run h0), e0]; rfl
theorem en_lstore_n_2 (h : By code p [65]) : decode code p = .ok (.lstore_n 2, 1) := by
  obtain ⟨⟨h0, e0⟩, -⟩ := h
  refine dc_of (n := 1) ?_; unfold Decoder.instr; rw [bind_run (u1_run h0), e0]; rfl
theorem en_lstore_n_3 (h : By code p [66]) : decode code p = .ok (.lstore_n 3, 1) := by
  obtain ⟨⟨h0, e0⟩, -⟩ := h
  refine dc_of (n := 1) ?_; unfold Decoder.instr; rw [bind_run (u1_run h0), e0]; rfl
theorem en_lconst_0 (h : By code p [9]) : decode code p = .ok (.lconst 0, 1) := by
  obtain ⟨⟨h0, e0⟩, -⟩ := h
  refine dc_of (n := 1) ?_; unfold Decoder.instr; rw [bind_run (u1_run h0), e0]; rfl
theorem en_lconst_1 (h : By code p [10]) : decode code p = .ok (.lconst 1, 1) := by
  obtain ⟨⟨h0, e0⟩, -⟩ := h
  refine dc_of (n := 1) ?_; unfold Decoder.instr; rw [bind_run (u1_run h0), e0]; rfl
theorem en_iconst_0 (h : By code p [2]) : decode code p = .ok (.iconst (-1), 1) := by
  obtain ⟨⟨h0, e0⟩, -⟩ := h
  refine dc_of (n := 1) ?_; unfold Decoder.instr; rw [bind_run (u1_run h0), e0]; rfl
theorem en_iconst_1 (h : By code p [3]) : decode code p = .ok (.iconst (0), 1) := by
  obtain ⟨⟨h0, e0⟩, -⟩ := h
  refine dc_of (n := 1) ?_; unfold Decoder.instr; rw [bind_run (u1_run h0), e0]; rfl
theorem en_iconst_2 (h : By code p [4]) : decode code p = .ok (.iconst (1), 1) := by
  obtain ⟨⟨h0, e0⟩, -⟩ := h
  refine dc_of (n := 1) ?_; unfold Decoder.instr; rw [bind_run (u1_run h0), e0]; rfl
theorem en_iconst_3 (h : By code p [5]) : decode code p = .ok (.iconst (2), 1) := by
  obtain ⟨⟨h0, e0⟩, -⟩ := h
  refine dc_of (n := 1) ?_; unfold Decoder.instr; rw [bind_run (u1_run h0), e0]; rfl
theorem en_iconst_4 (h : By code p [6]) : decode code p = .ok (.iconst (3), 1) := by
  obtain ⟨⟨h0, e0⟩, -⟩ := h
  refine dc_of (n := 1) ?_; unfold Decoder.instr; rw [bind_run (u1_run h0), e0]; rfl
theorem en_iconst_5 (h : By code p [7]) : decode code p = .ok (.iconst (4), 1) := by
  obtain ⟨⟨h0, e0⟩, -⟩ := h
  refine dc_of (n := 1) ?_; unfold Decoder.instr; rw [bind_run (u1_run h0), e0]; rfl
theorem en_iconst_6 (h : By code p [8]) : decode code p = .ok (.iconst (5), 1) := by
  obtain ⟨⟨h0, e0⟩, -⟩ := h
  refine dc_of (n := 1) ?_; unfold Decoder.instr; rw [bind_run (u1_run h0), e0]; rfl
theorem en_aload {x : Nat} (h : By code p [25, x]) : decode code p = .ok (.aload x, 2) := by
  obtain ⟨⟨h0, e0⟩, ⟨h1, e1⟩, -⟩ := h
  refine dc_of (n := 2) ?_; unfold Decoder.instr; rw [bind_run (u1_run h0), e0]; show Reader.runAt (Reader.u1 >>= fun a => pure (Instr.aload a)) code (p + 1) = _; rw [bind_run (u1_run h1), e1]; rfl
theorem en_astore {x : Nat} (h : By code p [58, x]) : decode code p = .ok (.astore x, 2) := by
  obtain ⟨⟨h0, e0⟩, ⟨h1, e1⟩, -⟩ := h
  refine dc_of (n := 2) ?_; unfold Decoder.instr; rw [bind_run (u1_run h0), e0]; show Reader.runAt (Reader.u1 >>= fun a => pure (Instr.astore a)) code (p + 1) = _; rw [bind_run (u1_run h1), e1]; rfl
theorem en_iload {x : Nat} (h : By code p [21, x]) : decode code p = .ok (.iload x, 2) := by
  obtain ⟨⟨h0, e0⟩, ⟨h1, e1⟩, -⟩ := h
  refine dc_of (n := 2) ?_; unfold Decoder.instr; rw [bind_run (u1_run h0), e0]; show Reader.runAt (Reader.u1 >>= fun a => pure (Instr.iload a)) code (p + 1) = _; rw [bind_run (u1_run h1), e1]; rfl
theorem en_istore {x : Nat} (h : By code p [54, x]) : decode code p = .ok (.istore x, 2) := by
  obtain ⟨⟨h0, e0⟩, ⟨h1, e1⟩, -⟩ := h
  refine dc_of (n := 2) ?_; unfold Decoder.instr; rw [bind_run (u1_run h0), e0]; show Reader.runAt (Reader.u1 >>= fun a => pure (Instr.istore a)) code (p + 1) = _; rw [bind_run (u1_run h1), e1]; rfl
theorem en_lload {x : Nat} (h : By code p [22, x]) : decode code p = .ok (.lload x, 2) := by
  obtain ⟨⟨h0, e0⟩, ⟨h1, e1⟩, -⟩ := h
  refine dc_of (n := 2) ?_; unfold Decoder.instr; rw [bind_run (u1_run h0), e0]; show Reader.runAt (Reader.u1 >>= fun a => pure (Instr.lload a)) code (p + 1) = _; rw [bind_run (u1_run h1), e1]; rfl
theorem en_lstore {x : Nat} (h : By code p [55, x]) : decode code p = .ok (.lstore x, 2) := by
  obtain ⟨⟨h0, e0⟩, ⟨h1, e1⟩, -⟩ := h
  refine dc_of (n := 2) ?_; unfold Decoder.instr; rw [bind_run (u1_run h0), e0]; show Reader.runAt (Reader.u1 >>= fun a => pure (Instr.lstore a)) code (p + 1) = _; rw [bind_run (u1_run h1), e1]; rfl
theorem en_ldc {x : Nat} (h : By code p [18, x]) : decode code p = .ok (.ldc x, 2) := by
  obtain ⟨⟨h0, e0⟩, ⟨h1, e1⟩, -⟩ := h
  refine dc_of (n := 2) ?_; unfold Decoder.instr; rw [bind_run (u1_run h0), e0]; show Reader.runAt (Reader.u1 >>= fun a => pure (Instr.ldc a)) code (p + 1) = _; rw [bind_run (u1_run h1), e1]; rfl
theorem s1_run (h : p < code.size) : Reader.runAt (ε := DecodeError) Reader.s1 code p = .ok (Reader.signed 8 code[p].toNat, p + 1) := map_run (u1_run h)
theorem s2_run (h0 : p < code.size) (h1 : p + 1 < code.size) : Reader.runAt (ε := DecodeError) Reader.s2 code p = .ok (Reader.signed 16 (code[p].toNat * 256 + code[p + 1].toNat), p + 1 + 1) := map_run (u2_run h0 h1)
theorem en_bipush {x : Int} (hx : -128 ≤ x ∧ x ≤ 127) (h : By code p [16, (x % 256).toNat]) : decode code p = .ok (.bipush x, 2) := by
  obtain ⟨⟨h0, e0⟩, ⟨h1, e1⟩, -⟩ := h
  refine dc_of (n := 2) ?_; unfold Decoder.instr; rw [bind_run (u1_run h0), e0]; show Reader.runAt (Reader.s1 >>= fun a => pure (Instr.bipush a)) code (p + 1) = _; rw [bind_run (s1_run h1), e1, sg8 hx]; rfl
theorem en_anewarray {x : Nat} (h : By code p [189, x / 256, x % 256]) : decode code p = .ok (.anewarray x, 3) := by
  obtain ⟨⟨h0, e0⟩, ⟨h1, e1⟩, ⟨h2, e2⟩, -⟩ := h
  refine dc_of (n := 3) ?_; unfold Decoder.instr; rw [bind_run (u1_run h0), e0]; show Reader.runAt (Reader.u2 >>= fun a => pure (Instr.anewarray a)) code (p + 1) = _; rw [bind_run (u2_run h1 h2), e1, e2, show x / 256 * 256 + x % 256 = x by omega]; rfl
theorem en_getfield {x : Nat} (h : By code p [180, x / 256, x % 256]) : decode code p = .ok (.getfield x, 3) := by
  obtain ⟨⟨h0, e0⟩, ⟨h1, e1⟩, ⟨h2, e2⟩, -⟩ := h
  refine dc_of (n := 3) ?_; unfold Decoder.instr; rw [bind_run (u1_run h0), e0]; show Reader.runAt (Reader.u2 >>= fun a => pure (Instr.getfield a)) code (p + 1) = _; rw [bind_run (u2_run h1 h2), e1, e2, show x / 256 * 256 + x % 256 = x by omega]; rfl
theorem en_getstatic {x : Nat} (h : By code p [178, x / 256, x % 256]) : decode code p = .ok (.getstatic x, 3) := by
  obtain ⟨⟨h0, e0⟩, ⟨h1, e1⟩, ⟨h2, e2⟩, -⟩ := h
  refine dc_of (n := 3) ?_; unfold Decoder.instr; rw [bind_run (u1_run h0), e0]; show Reader.runAt (Reader.u2 >>= fun a => pure (Instr.getstatic a)) code (p + 1) = _; rw [bind_run (u2_run h1 h2), e1, e2, show x / 256 * 256 + x % 256 = x by omega]; rfl
theorem en_invokespecial {x : Nat} (h : By code p [183, x / 256, x % 256]) : decode code p = .ok (.invokespecial x, 3) := by
  obtain ⟨⟨h0, e0⟩, ⟨h1, e1⟩, ⟨h2, e2⟩, -⟩ := h
  refine dc_of (n := 3) ?_; unfold Decoder.instr; rw [bind_run (u1_run h0), e0]; show Reader.runAt (Reader.u2 >>= fun a => pure (Instr.invokespecial a)) code (p + 1) = _; rw [bind_run (u2_run h1 h2), e1, e2, show x / 256 * 256 + x % 256 = x by omega]; rfl
theorem en_invokestatic {x : Nat} (h : By code p [184, x / 256, x % 256]) : decode code p = .ok (.invokestatic x, 3) := by
  obtain ⟨⟨h0, e0⟩, ⟨h1, e1⟩, ⟨h2, e2⟩, -⟩ := h
  refine dc_of (n := 3) ?_; unfold Decoder.instr; rw [bind_run (u1_run h0), e0]; show Reader.runAt (Reader.u2 >>= fun a => pure (Instr.invokestatic a)) code (p + 1) = _; rw [bind_run (u2_run h1 h2), e1, e2, show x / 256 * 256 + x % 256 = x by omega]; rfl
theorem en_invokevirtual {x : Nat} (h : By code p [182, x / 256, x % 256]) : decode code p = .ok (.invokevirtual x, 3) := by
  obtain ⟨⟨h0, e0⟩, ⟨h1, e1⟩, ⟨h2, e2⟩, -⟩ := h
  refine dc_of (n := 3) ?_; unfold Decoder.instr; rw [bind_run (u1_run h0), e0]; show Reader.runAt (Reader.u2 >>= fun a => pure (Instr.invokevirtual a)) code (p + 1) = _; rw [bind_run (u2_run h1 h2), e1, e2, show x / 256 * 256 + x % 256 = x by omega]; rfl
theorem en_ldc2_w {x : Nat} (h : By code p [20, x / 256, x % 256]) : decode code p = .ok (.ldc2_w x, 3) := by
  obtain ⟨⟨h0, e0⟩, ⟨h1, e1⟩, ⟨h2, e2⟩, -⟩ := h
  refine dc_of (n := 3) ?_; unfold Decoder.instr; rw [bind_run (u1_run h0), e0]; show Reader.runAt (Reader.u2 >>= fun a => pure (Instr.ldc2_w a)) code (p + 1) = _; rw [bind_run (u2_run h1 h2), e1, e2, show x / 256 * 256 + x % 256 = x by omega]; rfl
theorem en_ldc_w {x : Nat} (h : By code p [19, x / 256, x % 256]) : decode code p = .ok (.ldc_w x, 3) := by
  obtain ⟨⟨h0, e0⟩, ⟨h1, e1⟩, ⟨h2, e2⟩, -⟩ := h
  refine dc_of (n := 3) ?_; unfold Decoder.instr; rw [bind_run (u1_run h0), e0]; show Reader.runAt (Reader.u2 >>= fun a => pure (Instr.ldc_w a)) code (p + 1) = _; rw [bind_run (u2_run h1 h2), e1, e2, show x / 256 * 256 + x % 256 = x by omega]; rfl
theorem en_new {x : Nat} (h : By code p [187, x / 256, x % 256]) : decode code p = .ok (.new x, 3) := by
  obtain ⟨⟨h0, e0⟩, ⟨h1, e1⟩, ⟨h2, e2⟩, -⟩ := h
  refine dc_of (n := 3) ?_; unfold Decoder.instr; rw [bind_run (u1_run h0), e0]; show Reader.runAt (Reader.u2 >>= fun a => pure (Instr.new a)) code (p + 1) = _; rw [bind_run (u2_run h1 h2), e1, e2, show x / 256 * 256 + x % 256 = x by omega]; rfl
theorem en_putfield {x : Nat} (h : By code p [181, x / 256, x % 256]) : decode code p = .ok (.putfield x, 3) := by
  obtain ⟨⟨h0, e0⟩, ⟨h1, e1⟩, ⟨h2, e2⟩, -⟩ := h
  refine dc_of (n := 3) ?_; unfold Decoder.instr; rw [bind_run (u1_run h0), e0]; show Reader.runAt (Reader.u2 >>= fun a => pure (Instr.putfield a)) code (p + 1) = _; rw [bind_run (u2_run h1 h2), e1, e2, show x / 256 * 256 + x % 256 = x by omega]; rfl
theorem en_sipush {x : Int} (hx : -32768 ≤ x ∧ x ≤ 32767) (h : By code p [17, (x % 65536).toNat / 256, (x % 65536).toNat % 256]) : decode code p = .ok (.sipush x, 3) := by
  obtain ⟨⟨h0, e0⟩, ⟨h1, e1⟩, ⟨h2, e2⟩, -⟩ := h
  refine dc_of (n := 3) ?_; unfold Decoder.instr; rw [bind_run (u1_run h0), e0]; show Reader.runAt (Reader.s2 >>= fun a => pure (Instr.sipush a)) code (p + 1) = _; rw [bind_run (s2_run h1 h2), e1, e2, sg16 hx]; rfl
theorem en_goto {x : Int} (hx : -32768 ≤ x ∧ x ≤ 32767) (h : By code p [167, (x % 65536).toNat / 256, (x % 65536).toNat % 256]) : decode code p = .ok (.goto x, 3) := by
  obtain ⟨⟨h0, e0⟩, ⟨h1, e1⟩, ⟨h2, e2⟩, -⟩ := h
  refine dc_of (n := 3) ?_; unfold Decoder.instr; rw [bind_run (u1_run h0), e0]; show Reader.runAt (Reader.s2 >>= fun a => pure (Instr.goto a)) code (p + 1) = _; rw [bind_run (s2_run h1 h2), e1, e2, sg16 hx]; rfl
theorem en_ifnull {x : Int} (hx : -32768 ≤ x ∧ x ≤ 32767) (h : By code p [198, (x % 65536).toNat / 256, (x % 65536).toNat % 256]) : decode code p = .ok (.ifnull x, 3) := by
  obtain ⟨⟨h0, e0⟩, ⟨h1, e1⟩, ⟨h2, e2⟩, -⟩ := h
  refine dc_of (n := 3) ?_; unfold Decoder.instr; rw [bind_run (u1_run h0), e0]; show Reader.runAt (Reader.s2 >>= fun a => pure (Instr.ifnull a)) code (p + 1) = _; rw [bind_run (s2_run h1 h2), e1, e2, sg16 hx]; rfl
theorem en_ifnonnull {x : Int} (hx : -32768 ≤ x ∧ x ≤ 32767) (h : By code p [199, (x % 65536).toNat / 256, (x % 65536).toNat % 256]) : decode code p = .ok (.ifnonnull x, 3) := by
  obtain ⟨⟨h0, e0⟩, ⟨h1, e1⟩, ⟨h2, e2⟩, -⟩ := h
  refine dc_of (n := 3) ?_; unfold Decoder.instr; rw [bind_run (u1_run h0), e0]; show Reader.runAt (Reader.s2 >>= fun a => pure (Instr.ifnonnull a)) code (p + 1) = _; rw [bind_run (s2_run h1 h2), e1, e2, sg16 hx]; rfl
theorem en_ifCond_eq {x : Int} (hx : -32768 ≤ x ∧ x ≤ 32767) (h : By code p [153, (x % 65536).toNat / 256, (x % 65536).toNat % 256]) : decode code p = .ok (.ifCond .eq x, 3) := by
  obtain ⟨⟨h0, e0⟩, ⟨h1, e1⟩, ⟨h2, e2⟩, -⟩ := h
  refine dc_of (n := 3) ?_; unfold Decoder.instr; rw [bind_run (u1_run h0), e0]; show Reader.runAt (Reader.s2 >>= fun a => pure (Instr.ifCond .eq a)) code (p + 1) = _; rw [bind_run (s2_run h1 h2), e1, e2, sg16 hx]; rfl
theorem en_ifCond_ne {x : Int} (hx : -32768 ≤ x ∧ x ≤ 32767) (h : By code p [154, (x % 65536).toNat / 256, (x % 65536).toNat % 256]) : decode code p = .ok (.ifCond .ne x, 3) := by
  obtain ⟨⟨h0, e0⟩, ⟨h1, e1⟩, ⟨h2, e2⟩, -⟩ := h
  refine dc_of (n := 3) ?_; unfold Decoder.instr; rw [bind_run (u1_run h0), e0]; show Reader.runAt (Reader.s2 >>= fun a => pure (Instr.ifCond .ne a)) code (p + 1) = _; rw [bind_run (s2_run h1 h2), e1, e2, sg16 hx]; rfl
theorem en_ifCond_lt {x : Int} (hx : -32768 ≤ x ∧ x ≤ 32767) (h : By code p [155, (x % 65536).toNat / 256, (x % 65536).toNat % 256]) : decode code p = .ok (.ifCond .lt x, 3) := by
  obtain ⟨⟨h0, e0⟩, ⟨h1, e1⟩, ⟨h2, e2⟩, -⟩ := h
  refine dc_of (n := 3) ?_; unfold Decoder.instr; rw [bind_run (u1_run h0), e0]; show Reader.runAt (Reader.s2 >>= fun a => pure (Instr.ifCond .lt a)) code (p + 1) = _; rw [bind_run (s2_run h1 h2), e1, e2, sg16 hx]; rfl
theorem en_ifCond_ge {x : Int} (hx : -32768 ≤ x ∧ x ≤ 32767) (h : By code p [156, (x % 65536).toNat / 256, (x % 65536).toNat % 256]) : decode code p = .ok (.ifCond .ge x, 3) := by
  obtain ⟨⟨h0, e0⟩, ⟨h1, e1⟩, ⟨h2, e2⟩, -⟩ := h
  refine dc_of (n := 3) ?_; unfold Decoder.instr; rw [bind_run (u1_run h0), e0]; show Reader.runAt (Reader.s2 >>= fun a => pure (Instr.ifCond .ge a)) code (p + 1) = _; rw [bind_run (s2_run h1 h2), e1, e2, sg16 hx]; rfl
theorem en_ifCond_gt {x : Int} (hx : -32768 ≤ x ∧ x ≤ 32767) (h : By code p [157, (x % 65536).toNat / 256, (x % 65536).toNat % 256]) : decode code p = .ok (.ifCond .gt x, 3) := by
  obtain ⟨⟨h0, e0⟩, ⟨h1, e1⟩, ⟨h2, e2⟩, -⟩ := h
  refine dc_of (n := 3) ?_; unfold Decoder.instr; rw [bind_run (u1_run h0), e0]; show Reader.runAt (Reader.s2 >>= fun a => pure (Instr.ifCond .gt a)) code (p + 1) = _; rw [bind_run (s2_run h1 h2), e1, e2, sg16 hx]; rfl
theorem en_ifCond_le {x : Int} (hx : -32768 ≤ x ∧ x ≤ 32767) (h : By code p [158, (x % 65536).toNat / 256, (x % 65536).toNat % 256]) : decode code p = .ok (.ifCond .le x, 3) := by
  obtain ⟨⟨h0, e0⟩, ⟨h1, e1⟩, ⟨h2, e2⟩, -⟩ := h
  refine dc_of (n := 3) ?_; unfold Decoder.instr; rw [bind_run (u1_run h0), e0]; show Reader.runAt (Reader.s2 >>= fun a => pure (Instr.ifCond .le a)) code (p + 1) = _; rw [bind_run (s2_run h1 h2), e1, e2, sg16 hx]; rfl
theorem en_if_icmp_eq {x : Int} (hx : -32768 ≤ x ∧ x ≤ 32767) (h : By code p [159, (x % 65536).toNat / 256, (x % 65536).toNat % 256]) : decode code p = .ok (.if_icmp .eq x, 3) := by
  obtain ⟨⟨h0, e0⟩, ⟨h1, e1⟩, ⟨h2, e2⟩, -⟩ := h
  refine dc_of (n := 3) ?_; unfold Decoder.instr; rw [bind_run (u1_run h0), e0]; show Reader.runAt (Reader.s2 >>= fun a => pure (Instr.if_icmp .eq a)) code (p + 1) = _; rw [bind_run (s2_run h1 h2), e1, e2, sg16 hx]; rfl
theorem en_if_icmp_ne {x : Int} (hx : -32768 ≤ x ∧ x ≤ 32767) (h : By code p [160, (x % 65536).toNat / 256, (x % 65536).toNat % 256]) : decode code p = .ok (.if_icmp .ne x, 3) := by
  obtain ⟨⟨h0, e0⟩, ⟨h1, e1⟩, ⟨h2, e2⟩, -⟩ := h
  refine dc_of (n := 3) ?_; unfold Decoder.instr; rw [bind_run (u1_run h0), e0]; show Reader.runAt (Reader.s2 >>= fun a => pure (Instr.if_icmp .ne a)) code (p + 1) = _; rw [bind_run (s2_run h1 h2), e1, e2, sg16 hx]; rfl
theorem en_if_icmp_lt {x : Int} (hx : -32768 ≤ x ∧ x ≤ 32767) (h : By code p [161, (x % 65536).toNat / 256, (x % 65536).toNat % 256]) : decode code p = .ok (.if_icmp .lt x, 3) := by
  obtain ⟨⟨h0, e0⟩, ⟨h1, e1⟩, ⟨h2, e2⟩, -⟩ := h
  refine dc_of (n := 3) ?_; unfold Decoder.instr; rw [bind_run (u1_run h0), e0]; show Reader.runAt (Reader.s2 >>= fun a => pure (Instr.if_icmp .lt a)) code (p + 1) = _; rw [bind_run (s2_run h1 h2), e1, e2, sg16 hx]; rfl
theorem en_if_icmp_ge {x : Int} (hx : -32768 ≤ x ∧ x ≤ 32767) (h : By code p [162, (x % 65536).toNat / 256, (x % 65536).toNat % 256]) : decode code p = .ok (.if_icmp .ge x, 3) := by
  obtain ⟨⟨h0, e0⟩, ⟨h1, e1⟩, ⟨h2, e2⟩, -⟩ := h
  refine dc_of (n := 3) ?_; unfold Decoder.instr; rw [bind_run (u1_run h0), e0]; show Reader.runAt (Reader.s2 >>= fun a => pure (Instr.if_icmp .ge a)) code (p + 1) = _; rw [bind_run (s2_run h1 h2), e1, e2, sg16 hx]; rfl
theorem en_if_icmp_gt {x : Int} (hx : -32768 ≤ x ∧ x ≤ 32767) (h : By code p [163, (x % 65536).toNat / 256, (x % 65536).toNat % 256]) : decode code p = .ok (.if_icmp .gt x, 3) := by
  obtain ⟨⟨h0, e0⟩, ⟨h1, e1⟩, ⟨h2, e2⟩, -⟩ := h
  refine dc_of (n := 3) ?_; unfold Decoder.instr; rw [bind_run (u1_run h0), e0]; show Reader.runAt (Reader.s2 >>= fun a => pure (Instr.if_icmp .gt a)) code (p + 1) = _; rw [bind_run (s2_run h1 h2), e1, e2, sg16 hx]; rfl
theorem en_if_icmp_le {x : Int} (hx : -32768 ≤ x ∧ x ≤ 32767) (h : By code p [164, (x % 65536).toNat / 256, (x % 65536).toNat % 256]) : decode code p = .ok (.if_icmp .le x, 3) := by
  obtain ⟨⟨h0, e0⟩, ⟨h1, e1⟩, ⟨h2, e2⟩, -⟩ := h
  refine dc_of (n := 3) ?_; unfold Decoder.instr; rw [bind_run (u1_run h0), e0]; show Reader.runAt (Reader.s2 >>= fun a => pure (Instr.if_icmp .le a)) code (p + 1) = _; rw [bind_run (s2_run h1 h2), e1, e2, sg16 hx]; rfl
theorem en_if_acmp_eq {x : Int} (hx : -32768 ≤ x ∧ x ≤ 32767) (h : By code p [165, (x % 65536).toNat / 256, (x % 65536).toNat % 256]) : decode code p = .ok (.if_acmp .eq x, 3) := by
  obtain ⟨⟨h0, e0⟩, ⟨h1, e1⟩, ⟨h2, e2⟩, -⟩ := h
  refine dc_of (n := 3) ?_; unfold Decoder.instr; rw [bind_run (u1_run h0), e0]; show Reader.runAt (Reader.s2 >>= fun a => pure (Instr.if_acmp .eq a)) code (p + 1) = _; rw [bind_run (s2_run h1 h2), e1, e2, sg16 hx]; rfl
theorem en_if_acmp_ne {x : Int} (hx : -32768 ≤ x ∧ x ≤ 32767) (h : By code p [166, (x % 65536).toNat / 256, (x % 65536).toNat % 256]) : decode code p = .ok (.if_acmp .ne x, 3) := by
  obtain ⟨⟨h0, e0⟩, ⟨h1, e1⟩, ⟨h2, e2⟩, -⟩ := h
  refine dc_of (n := 3) ?_; unfold Decoder.instr; rw [bind_run (u1_run h0), e0]; show Reader.runAt (Reader.s2 >>= fun a => pure (Instr.if_acmp .ne a)) code (p + 1) = _; rw [bind_run (s2_run h1 h2), e1, e2, sg16 hx]; rfl
theorem en_iinc {i : Nat} {x : Int} (hx : -128 ≤ x ∧ x ≤ 127) (h : By code p [132, i, (x % 256).toNat]) : decode code p = .ok (.iinc i x, 3) := by
  obtain ⟨⟨h0, e0⟩, ⟨h1, e1⟩, ⟨h2, e2⟩, -⟩ := h
  refine dc_of (n := 3) ?_; unfold Decoder.instr; rw [bind_run (u1_run h0), e0]; show Reader.runAt (Reader.u1 >>= fun a => Reader.s1 >>= fun b => pure (Instr.iinc a b)) code (p + 1) = _; rw [bind_run (u1_run h1), bind_run (s1_run h2), e1, e2, sg8 hx]; rfl
theorem en_newarray_byte (h : By code p [188, 8]) : decode code p = .ok (.newarray .byte, 2) := by
  obtain ⟨⟨h0, e0⟩, ⟨h1, e1⟩, -⟩ := h
  refine dc_of (n := 2) ?_; unfold Decoder.instr; rw [bind_run (u1_run h0), e0]; show Reader.runAt (Decoder.newarray p) code (p + 1) = _; unfold Decoder.newarray; rw [bind_run (u1_run h1), e1]; rfl
theorem en_newarray_int (h : By code p [188, 10]) : decode code p = .ok (.newarray .int, 2) := by
  obtain ⟨⟨h0, e0⟩, ⟨h1, e1⟩, -⟩ := h
  refine dc_of (n := 2) ?_; unfold Decoder.instr; rw [bind_run (u1_run h0), e0]; show Reader.runAt (Decoder.newarray p) code (p + 1) = _; unfold Decoder.newarray; rw [bind_run (u1_run h1), e1]; rfl
theorem en_newarray_long (h : By code p [188, 11]) : decode code p = .ok (.newarray .long, 2) := by
  obtain ⟨⟨h0, e0⟩, ⟨h1, e1⟩, -⟩ := h
  refine dc_of (n := 2) ?_; unfold Decoder.instr; rw [bind_run (u1_run h0), e0]; show Reader.runAt (Decoder.newarray p) code (p + 1) = _; unfold Decoder.newarray; rw [bind_run (u1_run h1), e1]; rfl
theorem enc_ok {i : Instr} (hne : enc i ≠ []) (h : By code p (enc i)) : decode code p = .ok (i, (enc i).length) := by
  cases i with
  | aaload => exact en_aaload h
  | aastore => exact en_aastore h
  | aconst_null => exact en_aconst_null h
  | areturn => exact en_areturn h
  | arraylength => exact en_arraylength h
  | athrow => exact en_athrow h
  | baload => exact en_baload h
  | bastore => exact en_bastore h
  | dup => exact en_dup h
  | dup2 => exact en_dup2 h
  | i2b => exact en_i2b h
  | i2c => exact en_i2c h
  | i2l => exact en_i2l h
  | iadd => exact en_iadd h
  | iaload => exact en_iaload h
  | iand => exact en_iand h
  | iastore => exact en_iastore h
  | idiv => exact en_idiv h
  | imul => exact en_imul h
  | ineg => exact en_ineg h
  | ior => exact en_ior h
  | irem => exact en_irem h
  | ireturn => exact en_ireturn h
  | ishl => exact en_ishl h
  | ishr => exact en_ishr h
  | isub => exact en_isub h
  | iushr => exact en_iushr h
  | ixor => exact en_ixor h
  | l2i => exact en_l2i h
  | ladd => exact en_ladd h
  | laload => exact en_laload h
  | lastore => exact en_lastore h
  | lcmp => exact en_lcmp h
  | ldiv => exact en_ldiv h
  | lmul => exact en_lmul h
  | lreturn => exact en_lreturn h
  | pop => exact en_pop h
  | return_ => exact en_return_ h
  | aload_n k =>
    obtain ⟨k, hk⟩ := k
    rcases k with _ | _ | _ | _ | k
    · exact en_aload_n_0 h
    · exact en_aload_n_1 h
    · exact en_aload_n_2 h
    · exact en_aload_n_3 h
    · exact absurd hk (by omega)
  | astore_n k =>
    obtain ⟨k, hk⟩ := k
    rcases k with _ | _ | _ | _ | k
    · exact en_astore_n_0 h
    · exact en_astore_n_1 h
    · exact en_astore_n_2 h
    · exact en_astore_n_3 h
    · exact absurd hk (by omega)
  | iload_n k =>
    obtain ⟨k, hk⟩ := k
    rcases k with _ | _ | _ | _ | k
    · exact en_iload_n_0 h
    · exact en_iload_n_1 h
    · exact en_iload_n_2 h
    · exact en_iload_n_3 h
    · exact absurd hk (by omega)
  | istore_n k =>
    obtain ⟨k, hk⟩ := k
    rcases k with _ | _ | _ | _ | k
    · exact en_istore_n_0 h
    · exact en_istore_n_1 h
    · exact en_istore_n_2 h
    · exact en_istore_n_3 h
    · exact absurd hk (by omega)
  | lload_n k =>
    obtain ⟨k, hk⟩ := k
    rcases k with _ | _ | _ | _ | k
    · exact en_lload_n_0 h
    · exact en_lload_n_1 h
    · exact en_lload_n_2 h
    · exact en_lload_n_3 h
    · exact absurd hk (by omega)
  | lstore_n k =>
    obtain ⟨k, hk⟩ := k
    rcases k with _ | _ | _ | _ | k
    · exact en_lstore_n_0 h
    · exact en_lstore_n_1 h
    · exact en_lstore_n_2 h
    · exact en_lstore_n_3 h
    · exact absurd hk (by omega)
  | lconst k =>
    obtain ⟨k, hk⟩ := k
    rcases k with _ | _ | k
    · exact en_lconst_0 h
    · exact en_lconst_1 h
    · exact absurd hk (by omega)
  | iconst x =>
    have hne : enk x ≠ [] := hne
    have h : By code p (enk x) := h
    show decode code p = .ok (.iconst x, (enk x).length)
    unfold enk at hne h ⊢
    by_cases c0 : x = -1
    · subst c0
      exact en_iconst_0 h
    rw [if_neg c0] at hne h ⊢
    by_cases c1 : x = 0
    · subst c1
      exact en_iconst_1 h
    rw [if_neg c1] at hne h ⊢
    by_cases c2 : x = 1
    · subst c2
      exact en_iconst_2 h
    rw [if_neg c2] at hne h ⊢
    by_cases c3 : x = 2
    · subst c3
      exact en_iconst_3 h
    rw [if_neg c3] at hne h ⊢
    by_cases c4 : x = 3
    · subst c4
      exact en_iconst_4 h
    rw [if_neg c4] at hne h ⊢
    by_cases c5 : x = 4
    · subst c5
      exact en_iconst_5 h
    rw [if_neg c5] at hne h ⊢
    by_cases c6 : x = 5
    · subst c6
      exact en_iconst_6 h
    rw [if_neg c6] at hne h ⊢
    exact absurd rfl hne
  | aload x => exact en_aload h
  | astore x => exact en_astore h
  | iload x => exact en_iload h
  | istore x => exact en_istore h
  | lload x => exact en_lload h
  | lstore x => exact en_lstore h
  | ldc x => exact en_ldc h
  | bipush x =>
    have hne : en1 x [16] ≠ [] := hne
    have h : By code p (en1 x [16]) := h
    show decode code p = .ok (.bipush x, (en1 x [16]).length)
    unfold en1 at hne h ⊢
    by_cases c : -128 ≤ x ∧ x ≤ 127
    · rw [if_pos c] at h ⊢
      exact en_bipush c h
    · rw [if_neg c] at hne
      exact absurd rfl hne
  | anewarray x => exact en_anewarray h
  | getfield x => exact en_getfield h
  | getstatic x => exact en_getstatic h
  | invokespecial x => exact en_invokespecial h
  | invokestatic x => exact en_invokestatic h
  | invokevirtual x => exact en_invokevirtual h
  | ldc2_w x => exact en_ldc2_w h
  | ldc_w x => exact en_ldc_w h
  | new x => exact en_new h
  | putfield x => exact en_putfield h
  | sipush x =>
    have hne : en2 17 x ≠ [] := hne
    have h : By code p (en2 17 x) := h
    show decode code p = .ok (.sipush x, (en2 17 x).length)
    unfold en2 at hne h ⊢
    by_cases c : -32768 ≤ x ∧ x ≤ 32767
    · rw [if_pos c] at h ⊢
      exact en_sipush c h
    · rw [if_neg c] at hne
      exact absurd rfl hne
  | goto x =>
    have hne : en2 167 x ≠ [] := hne
    have h : By code p (en2 167 x) := h
    show decode code p = .ok (.goto x, (en2 167 x).length)
    unfold en2 at hne h ⊢
    by_cases c : -32768 ≤ x ∧ x ≤ 32767
    · rw [if_pos c] at h ⊢
      exact en_goto c h
    · rw [if_neg c] at hne
      exact absurd rfl hne
  | ifnull x =>
    have hne : en2 198 x ≠ [] := hne
    have h : By code p (en2 198 x) := h
    show decode code p = .ok (.ifnull x, (en2 198 x).length)
    unfold en2 at hne h ⊢
    by_cases c : -32768 ≤ x ∧ x ≤ 32767
    · rw [if_pos c] at h ⊢
      exact en_ifnull c h
    · rw [if_neg c] at hne
      exact absurd rfl hne
  | ifnonnull x =>
    have hne : en2 199 x ≠ [] := hne
    have h : By code p (en2 199 x) := h
    show decode code p = .ok (.ifnonnull x, (en2 199 x).length)
    unfold en2 at hne h ⊢
    by_cases c : -32768 ≤ x ∧ x ≤ 32767
    · rw [if_pos c] at h ⊢
      exact en_ifnonnull c h
    · rw [if_neg c] at hne
      exact absurd rfl hne
  | ifCond c0 x =>
    cases c0 with
    | eq =>
      have hne : en2 153 x ≠ [] := hne
      have h : By code p (en2 153 x) := h
      show decode code p = .ok (.ifCond .eq x, (en2 153 x).length)
      unfold en2 at hne h ⊢
      by_cases c : -32768 ≤ x ∧ x ≤ 32767
      · rw [if_pos c] at h ⊢
        exact en_ifCond_eq c h
      · rw [if_neg c] at hne
        exact absurd rfl hne
    | ne =>
      have hne : en2 154 x ≠ [] := hne
      have h : By code p (en2 154 x) := h
      show decode code p = .ok (.ifCond .ne x, (en2 154 x).length)
      unfold en2 at hne h ⊢
      by_cases c : -32768 ≤ x ∧ x ≤ 32767
      · rw [if_pos c] at h ⊢
        exact en_ifCond_ne c h
      · rw [if_neg c] at hne
        exact absurd rfl hne
    | lt =>
      have hne : en2 155 x ≠ [] := hne
      have h : By code p (en2 155 x) := h
      show decode code p = .ok (.ifCond .lt x, (en2 155 x).length)
      unfold en2 at hne h ⊢
      by_cases c : -32768 ≤ x ∧ x ≤ 32767
      · rw [if_pos c] at h ⊢
        exact en_ifCond_lt c h
      · rw [if_neg c] at hne
        exact absurd rfl hne
    | ge =>
      have hne : en2 156 x ≠ [] := hne
      have h : By code p (en2 156 x) := h
      show decode code p = .ok (.ifCond .ge x, (en2 156 x).length)
      unfold en2 at hne h ⊢
      by_cases c : -32768 ≤ x ∧ x ≤ 32767
      · rw [if_pos c] at h ⊢
        exact en_ifCond_ge c h
      · rw [if_neg c] at hne
        exact absurd rfl hne
    | gt =>
      have hne : en2 157 x ≠ [] := hne
      have h : By code p (en2 157 x) := h
      show decode code p = .ok (.ifCond .gt x, (en2 157 x).length)
      unfold en2 at hne h ⊢
      by_cases c : -32768 ≤ x ∧ x ≤ 32767
      · rw [if_pos c] at h ⊢
        exact en_ifCond_gt c h
      · rw [if_neg c] at hne
        exact absurd rfl hne
    | le =>
      have hne : en2 158 x ≠ [] := hne
      have h : By code p (en2 158 x) := h
      show decode code p = .ok (.ifCond .le x, (en2 158 x).length)
      unfold en2 at hne h ⊢
      by_cases c : -32768 ≤ x ∧ x ≤ 32767
      · rw [if_pos c] at h ⊢
        exact en_ifCond_le c h
      · rw [if_neg c] at hne
        exact absurd rfl hne
  | if_icmp c0 x =>
    cases c0 with
    | eq =>
      have hne : en2 159 x ≠ [] := hne
      have h : By code p (en2 159 x) := h
      show decode code p = .ok (.if_icmp .eq x, (en2 159 x).length)
      unfold en2 at hne h ⊢
      by_cases c : -32768 ≤ x ∧ x ≤ 32767
      · rw [if_pos c] at h ⊢
        exact en_if_icmp_eq c h
      · rw [if_neg c] at hne
        exact absurd rfl hne
    | ne =>
      have hne : en2 160 x ≠ [] := hne
      have h : By code p (en2 160 x) := h
      show decode code p = .ok (.if_icmp .ne x, (en2 160 x).length)
      unfold en2 at hne h ⊢
      by_cases c : -32768 ≤ x ∧ x ≤ 32767
      · rw [if_pos c] at h ⊢
        exact en_if_icmp_ne c h
      · rw [if_neg c] at hne
        exact absurd rfl hne
    | lt =>
      have hne : en2 161 x ≠ [] := hne
      have h : By code p (en2 161 x) := h
      show decode code p = .ok (.if_icmp .lt x, (en2 161 x).length)
      unfold en2 at hne h ⊢
      by_cases c : -32768 ≤ x ∧ x ≤ 32767
      · rw [if_pos c] at h ⊢
        exact en_if_icmp_lt c h
      · rw [if_neg c] at hne
        exact absurd rfl hne
    | ge =>
      have hne : en2 162 x ≠ [] := hne
      have h : By code p (en2 162 x) := h
      show decode code p = .ok (.if_icmp .ge x, (en2 162 x).length)
      unfold en2 at hne h ⊢
      by_cases c : -32768 ≤ x ∧ x ≤ 32767
      · rw [if_pos c] at h ⊢
        exact en_if_icmp_ge c h
      · rw [if_neg c] at hne
        exact absurd rfl hne
    | gt =>
      have hne : en2 163 x ≠ [] := hne
      have h : By code p (en2 163 x) := h
      show decode code p = .ok (.if_icmp .gt x, (en2 163 x).length)
      unfold en2 at hne h ⊢
      by_cases c : -32768 ≤ x ∧ x ≤ 32767
      · rw [if_pos c] at h ⊢
        exact en_if_icmp_gt c h
      · rw [if_neg c] at hne
        exact absurd rfl hne
    | le =>
      have hne : en2 164 x ≠ [] := hne
      have h : By code p (en2 164 x) := h
      show decode code p = .ok (.if_icmp .le x, (en2 164 x).length)
      unfold en2 at hne h ⊢
      by_cases c : -32768 ≤ x ∧ x ≤ 32767
      · rw [if_pos c] at h ⊢
        exact en_if_icmp_le c h
      · rw [if_neg c] at hne
        exact absurd rfl hne
  | if_acmp c0 x =>
    cases c0 with
    | eq =>
      have hne : en2 165 x ≠ [] := hne
      have h : By code p (en2 165 x) := h
      show decode code p = .ok (.if_acmp .eq x, (en2 165 x).length)
      unfold en2 at hne h ⊢
      by_cases c : -32768 ≤ x ∧ x ≤ 32767
      · rw [if_pos c] at h ⊢
        exact en_if_acmp_eq c h
      · rw [if_neg c] at hne
        exact absurd rfl hne
    | ne =>
      have hne : en2 166 x ≠ [] := hne
      have h : By code p (en2 166 x) := h
      show decode code p = .ok (.if_acmp .ne x, (en2 166 x).length)
      unfold en2 at hne h ⊢
      by_cases c : -32768 ≤ x ∧ x ≤ 32767
      · rw [if_pos c] at h ⊢
        exact en_if_acmp_ne c h
      · rw [if_neg c] at hne
        exact absurd rfl hne
  | iinc i x =>
    have hne : en1 x [132, i] ≠ [] := hne
    have h : By code p (en1 x [132, i]) := h
    show decode code p = .ok (.iinc i x, (en1 x [132, i]).length)
    unfold en1 at hne h ⊢
    by_cases c : -128 ≤ x ∧ x ≤ 127
    · rw [if_pos c] at h ⊢
      exact en_iinc c h
    · rw [if_neg c] at hne
      exact absurd rfl hne
  | newarray t =>
    cases t with
    | byte => exact en_newarray_byte h
    | int => exact en_newarray_int h
    | long => exact en_newarray_long h
    | _ => exact absurd rfl hne
  | _ => exact absurd rfl hne
/-- do these bytes begin so -/
def mtB : List Nat → List UInt8 → Bool
  | [], _ => true
  | a :: r, l => match l with
    | [] => false
    | b :: s => Nat.beq b.toNat a && mtB r s
theorem mtB_by {L : List UInt8} : ∀ (bs : List Nat) (q : Nat), mtB bs (L.drop q) = true → By ⟨⟨L⟩⟩ q bs := by
  intro bs
  induction bs with
  | nil => exact fun _ _ => trivial
  | cons a r ih =>
    intro q h
    by_cases hq : q < L.length
    · rw [List.drop_eq_getElem_cons hq] at h
      have h : (Nat.beq L[q].toNat a && mtB r (L.drop (q + 1))) = true := h
      rw [Bool.and_eq_true] at h
      exact ⟨⟨hq, Nat.eq_of_beq_eq_true h.1⟩, ih _ h.2⟩
    · rw [List.drop_eq_nil_of_le (by omega)] at h
      cases h
/-- one row, the bytes from its place on at hand -/
def okF (C : aM) (l : List UInt8) (e : aE) : Bool := match enc e.2.1 with
  | [] => okE C e
  | bs => mtB bs l && (Nat.beq (e.1 + bs.length) e.2.2.1 && ((Nat.beq (ilen e.2.1) 0 || Nat.beq (e.1 + ilen e.2.1) e.2.2.1) && okX e.1 e.2))
theorem okF_ok {C : aM} {L : List UInt8} {e : aE} (hC : C.2.1 = ⟨⟨L⟩⟩) (h : okF C (L.drop e.1) e = true) : okE C e = true := by
  unfold okF at h
  have key : enc e.2.1 ≠ [] → (mtB (enc e.2.1) (L.drop e.1) && (Nat.beq (e.1 + (enc e.2.1).length) e.2.2.1 && ((Nat.beq (ilen e.2.1) 0 || Nat.beq (e.1 + ilen e.2.1) e.2.2.1) && okX e.1 e.2))) = true → okE C e = true := by
    intro hne h
    rw [Bool.and_eq_true, Bool.and_eq_true] at h
    obtain ⟨h1, h2, h3⟩ := h
    have h2 := Nat.eq_of_beq_eq_true h2
    have d := enc_ok hne (mtB_by _ _ h1)
    rw [← hC] at d
    unfold okE
    rw [Bool.and_eq_true, Bool.and_eq_true]
    exact ⟨decide_eq_true (by rw [d, ← h2, Nat.add_sub_cancel_left]), Nat.ble_eq_true_of_le (by omega), h3⟩
  cases hb : enc e.2.1 with
  | nil =>
    rw [hb] at h
    exact h
  | cons a r =>
    rw [hb] at h
    exact key (by rw [hb]; exact List.cons_ne_nil _ _) (by rw [hb]; exact h)
def chkB (C : aM) : List UInt8 → Nat → List aE → Bool
  | _, _, [] => true
  | l, p, e :: r => Nat.ble p e.1 && (okF C (l.drop (e.1 - p)) e && chkB C (l.drop (e.1 - p)) e.1 r)
theorem chkB_ok {C : aM} {L : List UInt8} (hC : C.2.1 = ⟨⟨L⟩⟩) : ∀ (rows : List aE) (p : Nat), chkB C (L.drop p) p rows = true → rows.all (okE C) = true := by
  intro rows
  induction rows with
  | nil => exact fun _ _ => rfl
  | cons e r ih =>
    intro p h
    have h : (Nat.ble p e.1 && (okF C ((L.drop p).drop (e.1 - p)) e && chkB C ((L.drop p).drop (e.1 - p)) e.1 r)) = true := h
    rw [Bool.and_eq_true, Bool.and_eq_true] at h
    obtain ⟨h1, h2, h3⟩ := h
    have h1 := Nat.le_of_ble_eq_true h1
    rw [List.drop_drop, show p + (e.1 - p) = e.1 by omega] at h2 h3
    rw [List.all_cons, okF_ok hC h2, ih _ h3]
    rfl
/-- the chunks of rows, each with the bytes from its first place on -/
def chkC (C : aM) : List UInt8 → Nat → List (List aE) → Bool
  | _, _, [] => true
  | l, p, [] :: r => chkC C l p r
  | l, p, (e :: s) :: r => Nat.ble p e.1 && (chkB C (l.drop (e.1 - p)) e.1 (e :: s) && chkC C (l.drop (e.1 - p)) e.1 r)
theorem chkC_ok {C : aM} {L : List UInt8} (hC : C.2.1 = ⟨⟨L⟩⟩) : ∀ (ch : List (List aE)) (p : Nat), chkC C (L.drop p) p ch = true → ch.all (fun r => r.all (okE C)) = true := by
  intro ch
  induction ch with
  | nil => exact fun _ _ => rfl
  | cons x r ih =>
    intro p h
    cases x with
    | nil =>
      rw [List.all_cons, ih p h]
      rfl
    | cons e s =>
      have h : (Nat.ble p e.1 && (chkB C ((L.drop p).drop (e.1 - p)) e.1 (e :: s) && chkC C ((L.drop p).drop (e.1 - p)) e.1 r)) = true := h
      rw [Bool.and_eq_true, Bool.and_eq_true] at h
      obtain ⟨h1, h2, h3⟩ := h
      have h1 := Nat.le_of_ble_eq_true h1
      rw [List.drop_drop, show p + (e.1 - p) = e.1 by omega] at h2 h3
      rw [List.all_cons, chkB_ok hC _ _ h2, ih _ h3]
      rfl
def okQ (C : aM) : Bool := plainName C.1.cls && chkC C C.2.1.data.toList 0 C.2.2.2.2.2
theorem okM_q {C : aM} (h : okQ C = true) : okM C = true := by
  unfold okQ at h
  unfold okM
  rw [Bool.and_eq_true] at h ⊢
  exact ⟨h.1, chkC_ok (L := C.2.1.data.toList) rfl _ 0 h.2⟩
end T03b
end
section
/-! ===== the methods of the class, printed by program out of the listing ===== -/
def m_X0_init : aM := (yX0_init, cX0_init, 1, (Option.none : Option Jvm.ClassFile.FieldType), [], [[(0, .aload_n 0, 1, 0, 0), (1, .invokespecial 3, 4, 0, 0), (4, .aload_n 0, 5, 0, 0), (5, .bipush 12, 7, 0, 12), (7, .newarray .int, 9, 0, 0), (9, .putfield 9, 12, 0, 0), (12, .aload_n 0, 13, 0, 0), (13, .bipush 12, 15, 0, 12), (15, .newarray .int, 17, 0, 0), (17, .putfield 15, 20, 0, 0), (20, .return_, 21, 0, 0)]])
def m_X0_mostCalled : aM := (yX0_mostCalled, cX0_mostCalled, 6, (Option.some Jvm.ClassFile.FieldType.int), [], [[(0, .aload_n 1, 1, 0, 0), (1, .invokevirtual 18, 4, 0, 0), (4, .istore_n 2, 5, 0, 0), (5, .iconst 0, 6, 0, 0), (6, .istore_n 3, 7, 0, 0), (7, .iload_n 3, 8, 0, 0), (8, .aload_n 1, 9, 0, 0), (9, .getfield 24, 12, 0, 0), (12, .if_icmp .ge 22, 15, 34, 0), (15, .aload_n 0, 16, 0, 0), (16, .getfield 9, 19, 0, 0), (19, .iload_n 3, 20, 0, 0), (20, .aload_n 1, 21, 0, 0), (21, .iload_n 3, 22, 0, 0), (22, .invokevirtual 28, 25, 0, 0), (25, .invokestatic 32, 28, 0, 0), (28, .iinc 3 1, 31, 0, 1), (31, .goto (-24), 34, 7, 0), (34, .iconst 0, 35, 0, 0), (35, .istore_n 3, 36, 0, 0), (36, .iconst 1, 37, 0, 1), (37, .istore 4, 39, 0, 0), (39, .iload 4, 41, 0, 0), (41, .iload_n 2, 42, 0, 0), (42, .if_icmp .gt 55, 45, 97, 0), (45, .iload 4, 47, 0, 0), (47, .iload_n 2, 48, 0, 0), (48, .iconst (-1), 49, 0, (-1)), (49, .ixor, 50, 0, 0), (50, .iand, 51, 0, 0), (51, .ifCond .ne 7, 54, 58, 0), (54, .iconst 1, 55, 0, 1), (55, .goto 4, 58, 59, 0), (58, .iconst 0, 59, 0, 0), (59, .istore 5, 61, 0, 0), (61, .iload 5, 63, 0, 0), (63, .ifCond .eq 28, 66, 91, 0)],
  [(66, .iload 4, 68, 0, 0), (68, .invokestatic 36, 71, 0, 0), (71, .iload_n 3, 72, 0, 0), (72, .invokestatic 36, 75, 0, 0), (75, .if_icmp .le 16, 78, 91, 0), (78, .aload_n 0, 79, 0, 0), (79, .aload_n 1, 80, 0, 0), (80, .iload 4, 82, 0, 0), (82, .invokevirtual 41, 85, 0, 0), (85, .ifCond .eq 6, 88, 91, 0), (88, .iload 4, 90, 0, 0), (90, .istore_n 3, 91, 0, 0), (91, .iinc 4 1, 94, 0, 1), (94, .goto (-55), 97, 39, 0), (97, .iload_n 3, 98, 0, 0), (98, .ireturn, 99, 0, 0)]])
def m_X0_canBeCalledTogether : aM := (yX0_canBeCalledTogether, cX0_canBeCalledTogether, 7, (Option.some Jvm.ClassFile.FieldType.boolean), [], [[(0, .iconst 0, 1, 0, 0), (1, .istore_n 3, 2, 0, 0), (2, .iconst 0, 3, 0, 0), (3, .istore 4, 5, 0, 0), (5, .iconst 0, 6, 0, 0), (6, .istore 5, 8, 0, 0), (8, .iload 5, 10, 0, 0), (10, .aload_n 1, 11, 0, 0), (11, .getfield 24, 14, 0, 0), (14, .if_icmp .ge 63, 17, 77, 0), (17, .iload_n 2, 18, 0, 0), (18, .iload 5, 20, 0, 0), (20, .invokestatic 45, 23, 0, 0), (23, .ifCond .eq 48, 26, 71, 0), (26, .aload_n 1, 27, 0, 0), (27, .getfield 49, 30, 0, 0), (30, .iload 5, 32, 0, 0), (32, .invokestatic 52, 35, 0, 0), (35, .invokestatic 56, 38, 0, 0), (38, .istore 6, 40, 0, 0), (40, .iload_n 3, 41, 0, 0), (41, .iload 6, 43, 0, 0), (43, .iand, 44, 0, 0), (44, .ifCond .eq 5, 47, 49, 0), (47, .iconst 0, 48, 0, 0), (48, .ireturn, 49, 0, 0), (49, .iload_n 3, 50, 0, 0), (50, .iload 6, 52, 0, 0), (52, .ior, 53, 0, 0), (53, .istore_n 3, 54, 0, 0), (54, .iload 4, 56, 0, 0), (56, .aload_n 0, 57, 0, 0), (57, .getfield 9, 60, 0, 0), (60, .iload 5, 62, 0, 0), (62, .invokestatic 52, 65, 0, 0)],
  [(65, .invokestatic 56, 68, 0, 0), (68, .ior, 69, 0, 0), (69, .istore 4, 71, 0, 0), (71, .iinc 5 1, 74, 0, 1), (74, .goto (-66), 77, 8, 0), (77, .iload 4, 79, 0, 0), (79, .iload 4, 81, 0, 0), (81, .iconst 1, 82, 0, 1), (82, .ishl, 83, 0, 0), (83, .iand, 84, 0, 0), (84, .ifCond .ne 7, 87, 91, 0), (87, .iconst 1, 88, 0, 1), (88, .goto 4, 91, 92, 0), (91, .iconst 0, 92, 0, 0), (92, .ireturn, 93, 0, 0)]])
def m_X0_leastShame : aM := (yX0_leastShame, cX0_leastShame, 9, (Option.some Jvm.ClassFile.FieldType.int), [], [[(0, .aload_n 1, 1, 0, 0), (1, .iconst 0, 2, 0, 0), (2, .invokevirtual 59, 5, 0, 0), (5, .istore 4, 7, 0, 0), (7, .iconst 0, 8, 0, 0), (8, .istore 5, 10, 0, 0), (10, .iload 5, 12, 0, 0), (12, .aload_n 1, 13, 0, 0), (13, .getfield 24, 16, 0, 0), (16, .if_icmp .ge 25, 19, 41, 0), (19, .aload_n 0, 20, 0, 0), (20, .getfield 15, 23, 0, 0), (23, .iload 5, 25, 0, 0), (25, .aload_n 2, 26, 0, 0), (26, .aload_n 1, 27, 0, 0), (27, .iload 5, 29, 0, 0), (29, .invokevirtual 62, 32, 0, 0), (32, .invokestatic 32, 35, 0, 0), (35, .iinc 5 1, 38, 0, 1), (38, .goto (-28), 41, 10, 0), (41, .iconst 0, 42, 0, 0), (42, .istore 5, 44, 0, 0), (44, .iconst 0, 45, 0, 0), (45, .istore 6, 47, 0, 0), (47, .iconst 0, 48, 0, 0), (48, .istore 7, 50, 0, 0), (50, .iload 7, 52, 0, 0), (52, .iload 4, 54, 0, 0), (54, .if_icmp .gt 67, 57, 121, 0), (57, .iload 7, 59, 0, 0), (59, .iload 4, 61, 0, 0), (61, .iconst (-1), 62, 0, (-1)), (62, .ixor, 63, 0, 0), (63, .iand, 64, 0, 0)],
  [(64, .ifCond .ne 51, 67, 115, 0), (67, .aload_n 1, 68, 0, 0), (68, .getfield 68, 71, 0, 0), (71, .iload 7, 73, 0, 0), (73, .invokestatic 71, 76, 0, 0), (76, .iload_n 3, 77, 0, 0), (77, .if_icmp .gt 38, 80, 115, 0), (80, .aload_n 1, 81, 0, 0), (81, .iload 7, 83, 0, 0), (83, .invokestatic 74, 86, 0, 0), (86, .ifCond .eq 29, 89, 115, 0), (89, .aload_n 0, 90, 0, 0), (90, .getfield 15, 93, 0, 0), (93, .iload 7, 95, 0, 0), (95, .invokestatic 71, 98, 0, 0), (98, .istore 8, 100, 0, 0), (100, .iload 8, 102, 0, 0), (102, .iload 6, 104, 0, 0), (104, .if_icmp .le 11, 107, 115, 0), (107, .iload 7, 109, 0, 0), (109, .istore 5, 111, 0, 0), (111, .iload 8, 113, 0, 0), (113, .istore 6, 115, 0, 0), (115, .iinc 7 1, 118, 0, 1), (118, .goto (-68), 121, 50, 0), (121, .iload 5, 123, 0, 0), (123, .ireturn, 124, 0, 0)]])
def m_X0_leansWithin : aM := (yX0_leansWithin, cX0_leansWithin, 3, (Option.some Jvm.ClassFile.FieldType.boolean), [], [[(0, .iconst 0, 1, 0, 0), (1, .istore_n 2, 2, 0, 0), (2, .iload_n 2, 3, 0, 0), (3, .aload_n 0, 4, 0, 0), (4, .getfield 24, 7, 0, 0), (7, .if_icmp .ge 42, 10, 49, 0), (10, .iload_n 1, 11, 0, 0), (11, .iload_n 2, 12, 0, 0), (12, .invokestatic 45, 15, 0, 0), (15, .ifCond .eq 28, 18, 43, 0), (18, .aload_n 0, 19, 0, 0), (19, .iload_n 2, 20, 0, 0), (20, .invokevirtual 77, 23, 0, 0), (23, .ifCond .ne 20, 26, 43, 0), (26, .iload_n 1, 27, 0, 0), (27, .aload_n 0, 28, 0, 0), (28, .getfield 81, 31, 0, 0), (31, .iload_n 2, 32, 0, 0), (32, .invokestatic 52, 35, 0, 0), (35, .invokestatic 45, 38, 0, 0), (38, .ifCond .ne 5, 41, 43, 0), (41, .iconst 0, 42, 0, 0), (42, .ireturn, 43, 0, 0), (43, .iinc 2 1, 46, 0, 1), (46, .goto (-44), 49, 2, 0), (49, .iconst 1, 50, 0, 1), (50, .ireturn, 51, 0, 0)]])
def m_X0_firstSwap : aM := (yX0_firstSwap, cX0_firstSwap, 11, (Option.some Jvm.ClassFile.FieldType.int), [], [[(0, .aload_n 0, 1, 0, 0), (1, .iconst 0, 2, 0, 0), (2, .invokevirtual 59, 5, 0, 0), (5, .istore_n 3, 6, 0, 0), (6, .iload_n 3, 7, 0, 0), (7, .aload_n 0, 8, 0, 0), (8, .iload_n 1, 9, 0, 0), (9, .invokevirtual 84, 12, 0, 0), (12, .iand, 13, 0, 0), (13, .istore 4, 15, 0, 0), (15, .iload_n 3, 16, 0, 0), (16, .aload_n 0, 17, 0, 0), (17, .iload_n 2, 18, 0, 0), (18, .invokevirtual 84, 21, 0, 0), (21, .iand, 22, 0, 0), (22, .istore 5, 24, 0, 0), (24, .iconst 0, 25, 0, 0), (25, .istore 6, 27, 0, 0), (27, .iload 6, 29, 0, 0), (29, .aload_n 0, 30, 0, 0), (30, .getfield 24, 33, 0, 0), (33, .if_icmp .ge 114, 36, 147, 0), (36, .iconst 0, 37, 0, 0), (37, .istore 7, 39, 0, 0), (39, .iload 7, 41, 0, 0), (41, .aload_n 0, 42, 0, 0), (42, .getfield 24, 45, 0, 0), (45, .if_icmp .ge 96, 48, 141, 0), (48, .iload 4, 50, 0, 0), (50, .iload 6, 52, 0, 0), (52, .invokestatic 45, 55, 0, 0), (55, .ifCond .eq 80, 58, 135, 0), (58, .iload 5, 60, 0, 0), (60, .iload 7, 62, 0, 0), (62, .invokestatic 45, 65, 0, 0)],
  [(65, .ifCond .eq 70, 68, 135, 0), (68, .aload_n 0, 69, 0, 0), (69, .getfield 68, 72, 0, 0), (72, .iload 7, 74, 0, 0), (74, .invokestatic 52, 77, 0, 0), (77, .aload_n 0, 78, 0, 0), (78, .getfield 68, 81, 0, 0), (81, .iload 6, 83, 0, 0), (83, .invokestatic 52, 86, 0, 0), (86, .isub, 87, 0, 0), (87, .istore 8, 89, 0, 0), (89, .aload_n 0, 90, 0, 0), (90, .iload_n 1, 91, 0, 0), (91, .iload 8, 93, 0, 0), (93, .invokestatic 87, 96, 0, 0), (96, .istore 9, 98, 0, 0), (98, .aload_n 0, 99, 0, 0), (99, .iload_n 2, 100, 0, 0), (100, .iload 8, 102, 0, 0), (102, .ineg, 103, 0, 0), (103, .invokestatic 87, 106, 0, 0), (106, .istore 10, 108, 0, 0), (108, .iload 9, 110, 0, 0), (110, .ifCond .lt 25, 113, 135, 0), (113, .iload 10, 115, 0, 0), (115, .ifCond .lt 20, 118, 135, 0), (118, .iload 9, 120, 0, 0), (120, .iload 10, 122, 0, 0), (122, .iadd, 123, 0, 0), (123, .ifCond .le 12, 126, 135, 0), (126, .bipush 12, 128, 0, 12)],
  [(128, .iload 6, 130, 0, 0), (130, .imul, 131, 0, 0), (131, .iload 7, 133, 0, 0), (133, .iadd, 134, 0, 0), (134, .ireturn, 135, 0, 0), (135, .iinc 7 1, 138, 0, 1), (138, .goto (-99), 141, 39, 0), (141, .iinc 6 1, 144, 0, 1), (144, .goto (-117), 147, 27, 0), (147, .iconst (-1), 148, 0, (-1)), (148, .ireturn, 149, 0, 0)]])
def m_X0_gainOf : aM := (yX0_gainOf, cX0_gainOf, 5, (Option.some Jvm.ClassFile.FieldType.int), [], [[(0, .aload_n 0, 1, 0, 0), (1, .iload_n 1, 2, 0, 0), (2, .invokevirtual 91, 5, 0, 0), (5, .istore_n 3, 6, 0, 0), (6, .aload_n 0, 7, 0, 0), (7, .getfield 94, 10, 0, 0), (10, .iload_n 1, 11, 0, 0), (11, .invokestatic 52, 14, 0, 0), (14, .istore 4, 16, 0, 0), (16, .iload_n 3, 17, 0, 0), (17, .iload 4, 19, 0, 0), (19, .invokestatic 97, 22, 0, 0), (22, .iload_n 3, 23, 0, 0), (23, .iload_n 2, 24, 0, 0), (24, .iadd, 25, 0, 0), (25, .iload 4, 27, 0, 0), (27, .invokestatic 97, 30, 0, 0), (30, .isub, 31, 0, 0), (31, .ireturn, 32, 0, 0)]])
def m_X0_restingChoices : aM := (yX0_restingChoices, cX0_restingChoices, 5, (Option.some Jvm.ClassFile.FieldType.int), [], [[(0, .iconst 0, 1, 0, 0), (1, .istore_n 2, 2, 0, 0), (2, .iconst 0, 3, 0, 0), (3, .istore_n 3, 4, 0, 0), (4, .iload_n 3, 5, 0, 0), (5, .iconst 2, 6, 0, 2), (6, .if_icmp .ge 58, 9, 64, 0), (9, .iconst 0, 10, 0, 0), (10, .istore 4, 12, 0, 0), (12, .iload 4, 14, 0, 0), (14, .iconst 2, 15, 0, 2), (15, .if_icmp .ge 43, 18, 58, 0), (18, .iload_n 3, 19, 0, 0), (19, .iload 4, 21, 0, 0), (21, .iload_n 0, 22, 0, 0), (22, .iload_n 1, 23, 0, 0), (23, .invokestatic 101, 26, 0, 0), (26, .ifCond .eq 26, 29, 52, 0), (29, .iload 4, 31, 0, 0), (31, .iload_n 3, 32, 0, 0), (32, .iload_n 0, 33, 0, 0), (33, .iload_n 1, 34, 0, 0), (34, .invokestatic 101, 37, 0, 0), (37, .ifCond .eq 15, 40, 52, 0), (40, .iload_n 2, 41, 0, 0), (41, .iconst 2, 42, 0, 2), (42, .iload_n 3, 43, 0, 0), (43, .imul, 44, 0, 0), (44, .iload 4, 46, 0, 0), (46, .iadd, 47, 0, 0), (47, .invokestatic 56, 50, 0, 0), (50, .ior, 51, 0, 0), (51, .istore_n 2, 52, 0, 0), (52, .iinc 4 1, 55, 0, 1), (55, .goto (-43), 58, 12, 0), (58, .iinc 3 1, 61, 0, 1), (61, .goto (-57), 64, 4, 0)],
  [(64, .iload_n 2, 65, 0, 0), (65, .ireturn, 66, 0, 0)]])
def m_X0_isBest : aM := (yX0_isBest, cX0_isBest, 4, (Option.some Jvm.ClassFile.FieldType.boolean), [], [[(0, .iload_n 0, 1, 0, 0), (1, .iload_n 1, 2, 0, 0), (2, .iload_n 2, 3, 0, 0), (3, .iload_n 3, 4, 0, 0), (4, .invokestatic 105, 7, 0, 0), (7, .iconst 1, 8, 0, 1), (8, .iload_n 0, 9, 0, 0), (9, .isub, 10, 0, 0), (10, .iload_n 1, 11, 0, 0), (11, .iload_n 2, 12, 0, 0), (12, .iload_n 3, 13, 0, 0), (13, .invokestatic 105, 16, 0, 0), (16, .if_icmp .lt 7, 19, 23, 0), (19, .iconst 1, 20, 0, 1), (20, .goto 4, 23, 24, 0), (23, .iconst 0, 24, 0, 0), (24, .ireturn, 25, 0, 0)]])
def m_X0_payOf : aM := (yX0_payOf, cX0_payOf, 4, (Option.some Jvm.ClassFile.FieldType.int), [], [[(0, .iload_n 0, 1, 0, 0), (1, .ifCond .ne 19, 4, 20, 0), (4, .iload_n 1, 5, 0, 0), (5, .ifCond .ne 11, 8, 16, 0), (8, .iload_n 2, 9, 0, 0), (9, .iload_n 3, 10, 0, 0), (10, .iconst 2, 11, 0, 2), (11, .idiv, 12, 0, 0), (12, .isub, 13, 0, 0), (13, .goto 6, 16, 19, 0), (16, .iload_n 2, 17, 0, 0), (17, .iload_n 3, 18, 0, 0), (18, .isub, 19, 0, 0), (19, .ireturn, 20, 0, 0), (20, .iload_n 1, 21, 0, 0), (21, .ifCond .ne 7, 24, 28, 0), (24, .iload_n 2, 25, 0, 0), (25, .goto 5, 28, 30, 0), (28, .iload_n 2, 29, 0, 0), (29, .ineg, 30, 0, 0), (30, .ireturn, 31, 0, 0)]])
def m_X0_oddsOf : aM := (yX0_oddsOf, cX0_oddsOf, 10, (Option.some Jvm.ClassFile.FieldType.int), [], [[(0, .lconst 0, 1, 0, 0), (1, .lstore_n 3, 2, 0, 0), (2, .bipush 100, 4, 0, 100), (4, .iload_n 1, 5, 0, 0), (5, .invokestatic 109, 8, 0, 0), (8, .lstore 5, 10, 0, 0), (10, .lconst 1, 11, 0, 0), (11, .lstore 7, 13, 0, 0), (13, .iconst 0, 14, 0, 0), (14, .istore 9, 16, 0, 0), (16, .iload 9, 18, 0, 0), (18, .iload_n 1, 19, 0, 0), (19, .if_icmp .gt 55, 22, 74, 0), (22, .iload 9, 24, 0, 0), (24, .iload_n 2, 25, 0, 0), (25, .if_icmp .lt 27, 28, 52, 0), (28, .lload_n 3, 29, 0, 0), (29, .lload 7, 31, 0, 0), (31, .iload_n 0, 32, 0, 0), (32, .iload 9, 34, 0, 0), (34, .invokestatic 109, 37, 0, 0), (37, .lmul, 38, 0, 0), (38, .bipush 100, 40, 0, 100), (40, .iload_n 0, 41, 0, 0), (41, .isub, 42, 0, 0), (42, .iload_n 1, 43, 0, 0), (43, .iload 9, 45, 0, 0), (45, .isub, 46, 0, 0), (46, .invokestatic 109, 49, 0, 0), (49, .lmul, 50, 0, 0), (50, .ladd, 51, 0, 0), (51, .lstore_n 3, 52, 0, 0), (52, .lload 7, 54, 0, 0), (54, .iload_n 1, 55, 0, 0), (55, .iload 9, 57, 0, 0), (57, .isub, 58, 0, 0), (58, .i2l, 59, 0, 0), (59, .lmul, 60, 0, 0), (60, .iload 9, 62, 0, 0), (62, .iconst 1, 63, 0, 1), (63, .iadd, 64, 0, 0)],
  [(64, .i2l, 65, 0, 0), (65, .ldiv, 66, 0, 0), (66, .lstore 7, 68, 0, 0), (68, .iinc 9 1, 71, 0, 1), (71, .goto (-55), 74, 16, 0), (74, .lload 5, 76, 0, 0), (76, .lconst 0, 77, 0, 0), (77, .lcmp, 78, 0, 0), (78, .ifCond .le 15, 81, 93, 0), (81, .lload_n 3, 82, 0, 0), (82, .ldc2_w 113, 85, 0, 0), (85, .lmul, 86, 0, 0), (86, .lload 5, 88, 0, 0), (88, .ldiv, 89, 0, 0), (89, .l2i, 90, 0, 0), (90, .goto 4, 93, 94, 0), (93, .iconst 0, 94, 0, 0), (94, .ireturn, 95, 0, 0)]])
def m_X0_power : aM := (yX0_power, cX0_power, 5, (Option.some Jvm.ClassFile.FieldType.long), [], [[(0, .lconst 1, 1, 0, 0), (1, .lstore_n 2, 2, 0, 0), (2, .iconst 0, 3, 0, 0), (3, .istore 4, 5, 0, 0), (5, .iload 4, 7, 0, 0), (7, .iload_n 1, 8, 0, 0), (8, .if_icmp .ge 14, 11, 22, 0), (11, .lload_n 2, 12, 0, 0), (12, .iload_n 0, 13, 0, 0), (13, .i2l, 14, 0, 0), (14, .lmul, 15, 0, 0), (15, .lstore_n 2, 16, 0, 0), (16, .iinc 4 1, 19, 0, 1), (19, .goto (-14), 22, 5, 0), (22, .lload_n 2, 23, 0, 0), (23, .lreturn, 24, 0, 0)]])
def m_X0_daysToLeaveFree : aM := (yX0_daysToLeaveFree, cX0_daysToLeaveFree, 5, (Option.some Jvm.ClassFile.FieldType.int), [], [[(0, .iload_n 2, 1, 0, 0), (1, .iload_n 1, 2, 0, 0), (2, .invokestatic 97, 5, 0, 0), (5, .istore_n 3, 6, 0, 0), (6, .iconst 1, 7, 0, 1), (7, .istore 4, 9, 0, 0), (9, .iload 4, 11, 0, 0), (11, .bipush 6, 13, 0, 6), (13, .if_icmp .gt 25, 16, 38, 0), (16, .iload_n 0, 17, 0, 0), (17, .iload 4, 19, 0, 0), (19, .iload_n 3, 20, 0, 0), (20, .invokestatic 115, 23, 0, 0), (23, .sipush 9000, 26, 0, 9000), (26, .if_icmp .lt 6, 29, 32, 0), (29, .iload 4, 31, 0, 0), (31, .ireturn, 32, 0, 0), (32, .iinc 4 1, 35, 0, 1), (35, .goto (-26), 38, 9, 0), (38, .iconst (-1), 39, 0, (-1)), (39, .ireturn, 40, 0, 0)]])
def m_X1_init : aM := (yX1_init, cX1_init, 1, (Option.none : Option Jvm.ClassFile.FieldType), [], [[(0, .aload_n 0, 1, 0, 0), (1, .invokespecial 3, 4, 0, 0), (4, .aload_n 0, 5, 0, 0), (5, .sipush 240, 8, 0, 240), (8, .newarray .int, 10, 0, 0), (10, .putfield 11, 13, 0, 0), (13, .return_, 14, 0, 0)]])
def m_X1_copyFrom : aM := (yX1_copyFrom, cX1_copyFrom, 2, (Option.none : Option Jvm.ClassFile.FieldType), [], [[(0, .aload_n 0, 1, 0, 0), (1, .aload_n 1, 2, 0, 0), (2, .getfield 15, 5, 0, 0), (5, .putfield 15, 8, 0, 0), (8, .aload_n 0, 9, 0, 0), (9, .aload_n 1, 10, 0, 0), (10, .getfield 19, 13, 0, 0), (13, .putfield 19, 16, 0, 0), (16, .aload_n 1, 17, 0, 0), (17, .getfield 11, 20, 0, 0), (20, .aload_n 0, 21, 0, 0), (21, .getfield 11, 24, 0, 0), (24, .invokestatic 22, 27, 0, 0), (27, .return_, 28, 0, 0)]])
def m_X1_add : aM := (yX1_add, cX1_add, 6, (Option.none : Option Jvm.ClassFile.FieldType), [], [[(0, .aload_n 0, 1, 0, 0), (1, .getfield 19, 4, 0, 0), (4, .iconst 4, 5, 0, 4), (5, .imul, 6, 0, 0), (6, .istore 5, 8, 0, 0), (8, .aload_n 0, 9, 0, 0), (9, .getfield 11, 12, 0, 0), (12, .iload 5, 14, 0, 0), (14, .iload_n 1, 15, 0, 0), (15, .invokestatic 26, 18, 0, 0), (18, .aload_n 0, 19, 0, 0), (19, .getfield 11, 22, 0, 0), (22, .iload 5, 24, 0, 0), (24, .iconst 1, 25, 0, 1), (25, .iadd, 26, 0, 0), (26, .iload_n 2, 27, 0, 0), (27, .invokestatic 26, 30, 0, 0), (30, .aload_n 0, 31, 0, 0), (31, .getfield 11, 34, 0, 0), (34, .iload 5, 36, 0, 0), (36, .iconst 2, 37, 0, 2), (37, .iadd, 38, 0, 0), (38, .iload_n 3, 39, 0, 0), (39, .invokestatic 26, 42, 0, 0), (42, .aload_n 0, 43, 0, 0), (43, .getfield 11, 46, 0, 0), (46, .iload 5, 48, 0, 0), (48, .iconst 3, 49, 0, 3), (49, .iadd, 50, 0, 0), (50, .iload 4, 52, 0, 0), (52, .invokestatic 26, 55, 0, 0), (55, .aload_n 0, 56, 0, 0), (56, .aload_n 0, 57, 0, 0), (57, .getfield 19, 60, 0, 0), (60, .iconst 1, 61, 0, 1), (61, .iadd, 62, 0, 0), (62, .bipush 60, 64, 0, 60)],
  [(64, .irem, 65, 0, 0), (65, .putfield 19, 68, 0, 0), (68, .aload_n 0, 69, 0, 0), (69, .bipush 60, 71, 0, 60), (71, .aload_n 0, 72, 0, 0), (72, .getfield 15, 75, 0, 0), (75, .iconst 1, 76, 0, 1), (76, .iadd, 77, 0, 0), (77, .invokestatic 30, 80, 0, 0), (80, .putfield 15, 83, 0, 0), (83, .return_, 84, 0, 0)]])
def m_X1_valueOf : aM := (yX1_valueOf, cX1_valueOf, 4, (Option.some Jvm.ClassFile.FieldType.int), [], [[(0, .iload_n 1, 1, 0, 0), (1, .ifCond .lt 11, 4, 12, 0), (4, .iload_n 1, 5, 0, 0), (5, .aload_n 0, 6, 0, 0), (6, .getfield 15, 9, 0, 0), (9, .if_icmp .lt 5, 12, 14, 0), (12, .iconst (-1), 13, 0, (-1)), (13, .ireturn, 14, 0, 0), (14, .aload_n 0, 15, 0, 0), (15, .getfield 19, 18, 0, 0), (18, .iconst 1, 19, 0, 1), (19, .isub, 20, 0, 0), (20, .iload_n 1, 21, 0, 0), (21, .isub, 22, 0, 0), (22, .bipush 60, 24, 0, 60), (24, .iadd, 25, 0, 0), (25, .bipush 60, 27, 0, 60), (27, .irem, 28, 0, 0), (28, .istore_n 3, 29, 0, 0), (29, .aload_n 0, 30, 0, 0), (30, .getfield 11, 33, 0, 0), (33, .iload_n 3, 34, 0, 0), (34, .iconst 4, 35, 0, 4), (35, .imul, 36, 0, 0), (36, .iload_n 2, 37, 0, 0), (37, .iadd, 38, 0, 0), (38, .invokestatic 36, 41, 0, 0), (41, .ireturn, 42, 0, 0)]])
def m_X1_rowsOf : aM := (yX1_rowsOf, cX1_rowsOf, 4, (Option.some Jvm.ClassFile.FieldType.int), [], [[(0, .iconst 0, 1, 0, 0), (1, .istore_n 2, 2, 0, 0), (2, .iconst 0, 3, 0, 0), (3, .istore_n 3, 4, 0, 0), (4, .iload_n 3, 5, 0, 0), (5, .aload_n 0, 6, 0, 0), (6, .getfield 15, 9, 0, 0), (9, .if_icmp .ge 22, 12, 31, 0), (12, .aload_n 0, 13, 0, 0), (13, .iload_n 3, 14, 0, 0), (14, .iconst 1, 15, 0, 1), (15, .invokevirtual 40, 18, 0, 0), (18, .iload_n 1, 19, 0, 0), (19, .if_icmp .ne 6, 22, 25, 0), (22, .iinc 2 1, 25, 0, 1), (25, .iinc 3 1, 28, 0, 1), (28, .goto (-24), 31, 4, 0), (31, .iload_n 2, 32, 0, 0), (32, .ireturn, 33, 0, 0)]])
def m_X1_latestMonthOf : aM := (yX1_latestMonthOf, cX1_latestMonthOf, 3, (Option.some Jvm.ClassFile.FieldType.int), [], [[(0, .iconst 0, 1, 0, 0), (1, .istore_n 2, 2, 0, 0), (2, .iload_n 2, 3, 0, 0), (3, .aload_n 0, 4, 0, 0), (4, .getfield 15, 7, 0, 0), (7, .if_icmp .ge 26, 10, 33, 0), (10, .aload_n 0, 11, 0, 0), (11, .iload_n 2, 12, 0, 0), (12, .iconst 1, 13, 0, 1), (13, .invokevirtual 40, 16, 0, 0), (16, .iload_n 1, 17, 0, 0), (17, .if_icmp .ne 10, 20, 27, 0), (20, .aload_n 0, 21, 0, 0), (21, .iload_n 2, 22, 0, 0), (22, .iconst 0, 23, 0, 0), (23, .invokevirtual 40, 26, 0, 0), (26, .ireturn, 27, 0, 0), (27, .iinc 2 1, 30, 0, 1), (30, .goto (-28), 33, 2, 0), (33, .iconst (-1), 34, 0, (-1)), (34, .ireturn, 35, 0, 0)]])
def m_X2_init : aM := (yX2_init, cX2_init, 1, (Option.none : Option Jvm.ClassFile.FieldType), [], [[(0, .aload_n 0, 1, 0, 0), (1, .invokespecial 5, 4, 0, 0), (4, .aload_n 0, 5, 0, 0), (5, .iconst (-1), 6, 0, (-1)), (6, .putfield 11, 9, 0, 0), (9, .aload_n 0, 10, 0, 0), (10, .bipush 12, 12, 0, 12), (12, .newarray .int, 14, 0, 0), (14, .putfield 15, 17, 0, 0), (17, .aload_n 0, 18, 0, 0), (18, .bipush 12, 20, 0, 12), (20, .newarray .int, 22, 0, 0), (22, .putfield 19, 25, 0, 0), (25, .aload_n 0, 26, 0, 0), (26, .bipush 12, 28, 0, 12), (28, .newarray .int, 30, 0, 0), (30, .putfield 22, 33, 0, 0), (33, .aload_n 0, 34, 0, 0), (34, .bipush 12, 36, 0, 12), (36, .newarray .int, 38, 0, 0), (38, .putfield 25, 41, 0, 0), (41, .aload_n 0, 42, 0, 0), (42, .sipush 400, 45, 0, 400), (45, .newarray .int, 47, 0, 0), (47, .putfield 28, 50, 0, 0), (50, .aload_n 0, 51, 0, 0), (51, .bipush 9, 53, 0, 9), (53, .newarray .int, 55, 0, 0), (55, .putfield 31, 58, 0, 0), (58, .aload_n 0, 59, 0, 0), (59, .bipush 32, 61, 0, 32), (61, .newarray .int, 63, 0, 0), (63, .putfield 34, 66, 0, 0)],
  [(66, .return_, 67, 0, 0)]])
def m_X2_copyFrom : aM := (yX2_copyFrom, cX2_copyFrom, 2, (Option.none : Option Jvm.ClassFile.FieldType), [], [[(0, .aload_n 0, 1, 0, 0), (1, .aload_n 1, 2, 0, 0), (2, .getfield 11, 5, 0, 0), (5, .putfield 11, 8, 0, 0), (8, .aload_n 1, 9, 0, 0), (9, .getfield 15, 12, 0, 0), (12, .aload_n 0, 13, 0, 0), (13, .getfield 15, 16, 0, 0), (16, .invokestatic 37, 19, 0, 0), (19, .aload_n 1, 20, 0, 0), (20, .getfield 19, 23, 0, 0), (23, .aload_n 0, 24, 0, 0), (24, .getfield 19, 27, 0, 0), (27, .invokestatic 37, 30, 0, 0), (30, .aload_n 1, 31, 0, 0), (31, .getfield 22, 34, 0, 0), (34, .aload_n 0, 35, 0, 0), (35, .getfield 22, 38, 0, 0), (38, .invokestatic 37, 41, 0, 0), (41, .aload_n 1, 42, 0, 0), (42, .getfield 25, 45, 0, 0), (45, .aload_n 0, 46, 0, 0), (46, .getfield 25, 49, 0, 0), (49, .invokestatic 37, 52, 0, 0), (52, .aload_n 1, 53, 0, 0), (53, .getfield 28, 56, 0, 0), (56, .aload_n 0, 57, 0, 0), (57, .getfield 28, 60, 0, 0), (60, .invokestatic 37, 63, 0, 0), (63, .return_, 64, 0, 0)]])
def m_X2_clear : aM := (yX2_clear, cX2_clear, 1, (Option.none : Option Jvm.ClassFile.FieldType), [], [[(0, .aload_n 0, 1, 0, 0), (1, .iconst 0, 2, 0, 0), (2, .putfield 11, 5, 0, 0), (5, .aload_n 0, 6, 0, 0), (6, .iconst 0, 7, 0, 0), (7, .putfield 41, 10, 0, 0), (10, .return_, 11, 0, 0)]])
def m_X2_openLine : aM := (yX2_openLine, cX2_openLine, 3, (Option.none : Option Jvm.ClassFile.FieldType), [], [[(0, .aload_n 0, 1, 0, 0), (1, .getfield 15, 4, 0, 0), (4, .aload_n 0, 5, 0, 0), (5, .getfield 11, 8, 0, 0), (8, .iload_n 1, 9, 0, 0), (9, .invokestatic 44, 12, 0, 0), (12, .aload_n 0, 13, 0, 0), (13, .getfield 19, 16, 0, 0), (16, .aload_n 0, 17, 0, 0), (17, .getfield 11, 20, 0, 0), (20, .iload_n 2, 21, 0, 0), (21, .invokestatic 44, 24, 0, 0), (24, .aload_n 0, 25, 0, 0), (25, .getfield 22, 28, 0, 0), (28, .aload_n 0, 29, 0, 0), (29, .getfield 11, 32, 0, 0), (32, .aload_n 0, 33, 0, 0), (33, .getfield 41, 36, 0, 0), (36, .invokestatic 44, 39, 0, 0), (39, .return_, 40, 0, 0)]])
def m_X2_emit : aM := (yX2_emit, cX2_emit, 2, (Option.none : Option Jvm.ClassFile.FieldType), [], [[(0, .aload_n 0, 1, 0, 0), (1, .getfield 28, 4, 0, 0), (4, .aload_n 0, 5, 0, 0), (5, .getfield 41, 8, 0, 0), (8, .iload_n 1, 9, 0, 0), (9, .invokestatic 44, 12, 0, 0), (12, .aload_n 0, 13, 0, 0), (13, .dup, 14, 0, 0), (14, .getfield 41, 17, 0, 0), (17, .iconst 1, 18, 0, 1), (18, .iadd, 19, 0, 0), (19, .putfield 41, 22, 0, 0), (22, .return_, 23, 0, 0)]])
def m_X2_closeLine : aM := (yX2_closeLine, cX2_closeLine, 1, (Option.none : Option Jvm.ClassFile.FieldType), [], [[(0, .aload_n 0, 1, 0, 0), (1, .getfield 25, 4, 0, 0), (4, .aload_n 0, 5, 0, 0), (5, .getfield 11, 8, 0, 0), (8, .aload_n 0, 9, 0, 0), (9, .getfield 41, 12, 0, 0), (12, .invokestatic 44, 15, 0, 0), (15, .aload_n 0, 16, 0, 0), (16, .dup, 17, 0, 0), (17, .getfield 11, 20, 0, 0), (20, .iconst 1, 21, 0, 1), (21, .iadd, 22, 0, 0), (22, .putfield 11, 25, 0, 0), (25, .return_, 26, 0, 0)]])
def m_X2_growthOf : aM := (yX2_growthOf, cX2_growthOf, 3, (Option.some Jvm.ClassFile.FieldType.int), [], [[(0, .aload_n 0, 1, 0, 0), (1, .aload_n 1, 2, 0, 0), (2, .iload_n 2, 3, 0, 0), (3, .invokevirtual 48, 6, 0, 0), (6, .aload_n 0, 7, 0, 0), (7, .iconst 0, 8, 0, 0), (8, .invokevirtual 52, 11, 0, 0), (11, .ireturn, 12, 0, 0)]])
def m_X2_shameOf : aM := (yX2_shameOf, cX2_shameOf, 3, (Option.some Jvm.ClassFile.FieldType.int), [], [[(0, .aload_n 0, 1, 0, 0), (1, .aload_n 1, 2, 0, 0), (2, .iload_n 2, 3, 0, 0), (3, .invokevirtual 48, 6, 0, 0), (6, .iconst 0, 7, 0, 0), (7, .aload_n 1, 8, 0, 0), (8, .getfield 56, 11, 0, 0), (11, .iload_n 2, 12, 0, 0), (12, .invokestatic 61, 15, 0, 0), (15, .aload_n 0, 16, 0, 0), (16, .iconst 1, 17, 0, 1), (17, .invokevirtual 52, 20, 0, 0), (20, .iadd, 21, 0, 0), (21, .aload_n 0, 22, 0, 0), (22, .iconst 2, 23, 0, 2), (23, .invokevirtual 52, 26, 0, 0), (26, .isub, 27, 0, 0), (27, .invokestatic 65, 30, 0, 0), (30, .ireturn, 31, 0, 0)]])
def m_X2_shameOfSet : aM := (yX2_shameOfSet, cX2_shameOfSet, 5, (Option.some Jvm.ClassFile.FieldType.int), [], [[(0, .iconst 0, 1, 0, 0), (1, .istore_n 3, 2, 0, 0), (2, .iconst 0, 3, 0, 0), (3, .istore 4, 5, 0, 0), (5, .iload 4, 7, 0, 0), (7, .aload_n 1, 8, 0, 0), (8, .getfield 71, 11, 0, 0), (11, .if_icmp .ge 28, 14, 39, 0), (14, .iload_n 2, 15, 0, 0), (15, .iload 4, 17, 0, 0), (17, .invokestatic 74, 20, 0, 0), (20, .ifCond .eq 13, 23, 33, 0), (23, .iload_n 3, 24, 0, 0), (24, .aload_n 0, 25, 0, 0), (25, .aload_n 1, 26, 0, 0), (26, .iload 4, 28, 0, 0), (28, .invokevirtual 78, 31, 0, 0), (31, .iadd, 32, 0, 0), (32, .istore_n 3, 33, 0, 0), (33, .iinc 4 1, 36, 0, 1), (36, .goto (-31), 39, 5, 0), (39, .iload_n 3, 40, 0, 0), (40, .ireturn, 41, 0, 0)]])
def m_X2_takeParts : aM := (yX2_takeParts, cX2_takeParts, 5, (Option.none : Option Jvm.ClassFile.FieldType), [], [[(0, .aload_n 1, 1, 0, 0), (1, .getfield 82, 4, 0, 0), (4, .iload_n 2, 5, 0, 0), (5, .invokestatic 61, 8, 0, 0), (8, .istore_n 3, 9, 0, 0), (9, .aload_n 1, 10, 0, 0), (10, .getfield 85, 13, 0, 0), (13, .iload_n 2, 14, 0, 0), (14, .invokestatic 61, 17, 0, 0), (17, .istore 4, 19, 0, 0), (19, .aload_n 0, 20, 0, 0), (20, .sipush 1000, 23, 0, 1000), (23, .iload_n 2, 24, 0, 0), (24, .invokevirtual 88, 27, 0, 0), (27, .aload_n 0, 28, 0, 0), (28, .sipush 1001, 31, 0, 1001), (31, .aload_n 1, 32, 0, 0), (32, .getfield 92, 35, 0, 0), (35, .iload_n 2, 36, 0, 0), (36, .invokestatic 61, 39, 0, 0), (39, .invokevirtual 88, 42, 0, 0), (42, .aload_n 0, 43, 0, 0), (43, .sipush 1002, 46, 0, 1002), (46, .aload_n 1, 47, 0, 0), (47, .getfield 56, 50, 0, 0), (50, .iload_n 2, 51, 0, 0), (51, .invokestatic 61, 54, 0, 0), (54, .invokevirtual 88, 57, 0, 0), (57, .aload_n 0, 58, 0, 0), (58, .sipush 1003, 61, 0, 1003), (61, .iload_n 3, 62, 0, 0), (62, .iconst (-1), 63, 0, (-1)), (63, .if_icmp .ne 8, 66, 71, 0)],
  [(66, .bipush 9, 68, 0, 9), (68, .goto 4, 71, 72, 0), (71, .iload_n 3, 72, 0, 0), (72, .invokevirtual 88, 75, 0, 0), (75, .aload_n 0, 76, 0, 0), (76, .sipush 1004, 79, 0, 1004), (79, .iload 4, 81, 0, 0), (81, .invokevirtual 88, 84, 0, 0), (84, .aload_n 0, 85, 0, 0), (85, .sipush 1005, 88, 0, 1005), (88, .aload_n 1, 89, 0, 0), (89, .getfield 95, 92, 0, 0), (92, .iload 4, 94, 0, 0), (94, .invokestatic 61, 97, 0, 0), (97, .invokevirtual 88, 100, 0, 0), (100, .aload_n 0, 101, 0, 0), (101, .sipush 1006, 104, 0, 1006), (104, .aload_n 1, 105, 0, 0), (105, .getfield 98, 108, 0, 0), (108, .invokevirtual 88, 111, 0, 0), (111, .aload_n 0, 112, 0, 0), (112, .sipush 1007, 115, 0, 1007), (115, .aload_n 1, 116, 0, 0), (116, .iload_n 2, 117, 0, 0), (117, .invokevirtual 101, 120, 0, 0), (120, .ifCond .eq 7, 123, 127, 0), (123, .iconst 1, 124, 0, 1), (124, .goto 4, 127, 128, 0), (127, .iconst 0, 128, 0, 0)],
  [(128, .invokevirtual 88, 131, 0, 0), (131, .aload_n 0, 132, 0, 0), (132, .sipush 1008, 135, 0, 1008), (135, .aload_n 1, 136, 0, 0), (136, .getfield 56, 139, 0, 0), (139, .iload_n 2, 140, 0, 0), (140, .invokestatic 61, 143, 0, 0), (143, .bipush 11, 145, 0, 11), (145, .if_icmp .le 7, 148, 152, 0), (148, .iconst 1, 149, 0, 1), (149, .goto 4, 152, 153, 0), (152, .iconst 0, 153, 0, 0), (153, .invokevirtual 88, 156, 0, 0), (156, .return_, 157, 0, 0)]])
def m_X2_setPart : aM := (yX2_setPart, cX2_setPart, 3, (Option.none : Option Jvm.ClassFile.FieldType), [], [[(0, .aload_n 0, 1, 0, 0), (1, .getfield 31, 4, 0, 0), (4, .iload_n 1, 5, 0, 0), (5, .sipush 1000, 8, 0, 1000), (8, .isub, 9, 0, 0), (9, .iload_n 2, 10, 0, 0), (10, .invokestatic 44, 13, 0, 0), (13, .return_, 14, 0, 0)]])
def m_X2_sumOfLines : aM := (yX2_sumOfLines, cX2_sumOfLines, 4, (Option.some Jvm.ClassFile.FieldType.int), [], [[(0, .iconst 0, 1, 0, 0), (1, .istore_n 2, 2, 0, 0), (2, .iconst 0, 3, 0, 0), (3, .istore_n 3, 4, 0, 0), (4, .iload_n 3, 5, 0, 0), (5, .aload_n 0, 6, 0, 0), (6, .getfield 11, 9, 0, 0), (9, .if_icmp .ge 40, 12, 49, 0), (12, .aload_n 0, 13, 0, 0), (13, .getfield 15, 16, 0, 0), (16, .iload_n 3, 17, 0, 0), (17, .invokestatic 61, 20, 0, 0), (20, .iload_n 1, 21, 0, 0), (21, .if_icmp .ne 22, 24, 43, 0), (24, .aload_n 0, 25, 0, 0), (25, .iload_n 3, 26, 0, 0), (26, .invokevirtual 105, 29, 0, 0), (29, .ifCond .eq 14, 32, 43, 0), (32, .iload_n 2, 33, 0, 0), (33, .aload_n 0, 34, 0, 0), (34, .getfield 19, 37, 0, 0), (37, .iload_n 3, 38, 0, 0), (38, .invokestatic 61, 41, 0, 0), (41, .iadd, 42, 0, 0), (42, .istore_n 2, 43, 0, 0), (43, .iinc 3 1, 46, 0, 1), (46, .goto (-42), 49, 4, 0), (49, .iload_n 2, 50, 0, 0), (50, .ireturn, 51, 0, 0)]])
def m_X2_holds : aM := (yX2_holds, cX2_holds, 6, (Option.some Jvm.ClassFile.FieldType.boolean), [], [[(0, .iconst 0, 1, 0, 0), (1, .istore_n 2, 2, 0, 0), (2, .aload_n 0, 3, 0, 0), (3, .getfield 25, 6, 0, 0), (6, .iload_n 1, 7, 0, 0), (7, .invokestatic 61, 10, 0, 0), (10, .istore_n 3, 11, 0, 0), (11, .aload_n 0, 12, 0, 0), (12, .getfield 22, 15, 0, 0), (15, .iload_n 1, 16, 0, 0), (16, .invokestatic 61, 19, 0, 0), (19, .istore 4, 21, 0, 0), (21, .iload 4, 23, 0, 0), (23, .iload_n 3, 24, 0, 0), (24, .if_icmp .ge 137, 27, 161, 0), (27, .aload_n 0, 28, 0, 0), (28, .getfield 28, 31, 0, 0), (31, .iload 4, 33, 0, 0), (33, .invokestatic 61, 36, 0, 0), (36, .istore 5, 38, 0, 0), (38, .iload 5, 40, 0, 0), (40, .sipush 2000, 43, 0, 2000), (43, .if_icmp .ge 43, 46, 86, 0), (46, .aload_n 0, 47, 0, 0), (47, .getfield 34, 50, 0, 0), (50, .iload_n 2, 51, 0, 0), (51, .iload 5, 53, 0, 0), (53, .sipush 1000, 56, 0, 1000), (56, .if_icmp .ge 8, 59, 64, 0), (59, .iload 5, 61, 0, 0), (61, .goto 16, 64, 77, 0)],
  [(64, .aload_n 0, 65, 0, 0), (65, .getfield 31, 68, 0, 0), (68, .iload 5, 70, 0, 0), (70, .sipush 1000, 73, 0, 1000), (73, .isub, 74, 0, 0), (74, .invokestatic 61, 77, 0, 0), (77, .invokestatic 44, 80, 0, 0), (80, .iinc 2 1, 83, 0, 1), (83, .goto 72, 86, 155, 0), (86, .iload 5, 88, 0, 0), (88, .sipush 2003, 91, 0, 2003), (91, .if_icmp .ne 28, 94, 119, 0), (94, .aload_n 0, 95, 0, 0), (95, .getfield 34, 98, 0, 0), (98, .iload_n 2, 99, 0, 0), (99, .iconst 1, 100, 0, 1), (100, .isub, 101, 0, 0), (101, .iconst 1, 102, 0, 1), (102, .aload_n 0, 103, 0, 0), (103, .getfield 34, 106, 0, 0), (106, .iload_n 2, 107, 0, 0), (107, .iconst 1, 108, 0, 1), (108, .isub, 109, 0, 0), (109, .invokestatic 61, 112, 0, 0), (112, .isub, 113, 0, 0), (113, .invokestatic 44, 116, 0, 0), (116, .goto 39, 119, 155, 0), (119, .iinc 2 (-1), 122, 0, (-1)), (122, .aload_n 0, 123, 0, 0), (123, .getfield 34, 126, 0, 0), (126, .iload_n 2, 127, 0, 0), (127, .iconst 1, 128, 0, 1)],
  [(128, .isub, 129, 0, 0), (129, .iload 5, 131, 0, 0), (131, .aload_n 0, 132, 0, 0), (132, .getfield 34, 135, 0, 0), (135, .iload_n 2, 136, 0, 0), (136, .iconst 1, 137, 0, 1), (137, .isub, 138, 0, 0), (138, .invokestatic 61, 141, 0, 0), (141, .aload_n 0, 142, 0, 0), (142, .getfield 34, 145, 0, 0), (145, .iload_n 2, 146, 0, 0), (146, .invokestatic 61, 149, 0, 0), (149, .invokestatic 108, 152, 0, 0), (152, .invokestatic 44, 155, 0, 0), (155, .iinc 4 1, 158, 0, 1), (158, .goto (-137), 161, 21, 0), (161, .iload_n 2, 162, 0, 0), (162, .ifCond .eq 14, 165, 176, 0), (165, .aload_n 0, 166, 0, 0), (166, .getfield 34, 169, 0, 0), (169, .iconst 0, 170, 0, 0), (170, .invokestatic 61, 173, 0, 0), (173, .ifCond .eq 7, 176, 180, 0), (176, .iconst 1, 177, 0, 1), (177, .goto 4, 180, 181, 0), (180, .iconst 0, 181, 0, 0), (181, .ireturn, 182, 0, 0)]])
def m_X2_joined : aM := (yX2_joined, cX2_joined, 3, (Option.some Jvm.ClassFile.FieldType.int), [], [[(0, .iload_n 0, 1, 0, 0), (1, .tableswitch 65 2000 2004 #[35, 39, 50, 65, 61], 36, 0, 0), (36, .iload_n 1, 37, 0, 0), (37, .iload_n 2, 38, 0, 0), (38, .iadd, 39, 0, 0), (39, .ireturn, 40, 0, 0), (40, .iload_n 1, 41, 0, 0), (41, .iload_n 2, 42, 0, 0), (42, .if_icmp .ge 7, 45, 49, 0), (45, .iconst 1, 46, 0, 1), (46, .goto 4, 49, 50, 0), (49, .iconst 0, 50, 0, 0), (50, .ireturn, 51, 0, 0), (51, .iload_n 1, 52, 0, 0), (52, .iload_n 2, 53, 0, 0), (53, .if_icmp .le 7, 56, 60, 0), (56, .iconst 1, 57, 0, 1), (57, .goto 4, 60, 61, 0), (60, .iconst 0, 61, 0, 0), (61, .ireturn, 62, 0, 0), (62, .iload_n 1, 63, 0, 0), (63, .iload_n 2, 64, 0, 0)],
  [(64, .iand, 65, 0, 0), (65, .ireturn, 66, 0, 0), (66, .iload_n 1, 67, 0, 0), (67, .iload_n 2, 68, 0, 0), (68, .ior, 69, 0, 0), (69, .ireturn, 70, 0, 0)]])
def m_X3_init : aM := (yX3_init, cX3_init, 1, (Option.none : Option Jvm.ClassFile.FieldType), [], [[(0, .aload_n 0, 1, 0, 0), (1, .bipush 12, 3, 0, 12), (3, .invokespecial 5, 6, 0, 0), (6, .aload_n 0, 7, 0, 0), (7, .new 1, 10, 0, 0), (10, .dup, 11, 0, 0), (11, .invokespecial 11, 14, 0, 0), (14, .putfield 14, 17, 0, 0), (17, .aload_n 0, 18, 0, 0), (18, .bipush 32, 20, 0, 32), (20, .newarray .int, 22, 0, 0), (22, .putfield 20, 25, 0, 0), (25, .return_, 26, 0, 0)]])
def m_X3_readLine : aM := (yX3_readLine, cX3_readLine, 3, (Option.some Jvm.ClassFile.FieldType.boolean), [], [[(0, .aload_n 0, 1, 0, 0), (1, .invokevirtual 24, 4, 0, 0), (4, .istore_n 1, 5, 0, 0), (5, .iload_n 1, 6, 0, 0), (6, .iconst (-1), 7, 0, (-1)), (7, .if_icmp .ne 5, 10, 12, 0), (10, .iconst 0, 11, 0, 0), (11, .ireturn, 12, 0, 0), (12, .aload_n 0, 13, 0, 0), (13, .getfield 28, 16, 0, 0), (16, .iconst 0, 17, 0, 0), (17, .bipush 60, 19, 0, 60), (19, .invokevirtual 32, 22, 0, 0), (22, .istore_n 2, 23, 0, 0), (23, .iload_n 2, 24, 0, 0), (24, .iconst (-1), 25, 0, (-1)), (25, .if_icmp .ne 5, 28, 30, 0), (28, .iconst 0, 29, 0, 0), (29, .ireturn, 30, 0, 0), (30, .aload_n 0, 31, 0, 0), (31, .getfield 14, 34, 0, 0), (34, .iload_n 1, 35, 0, 0), (35, .iload_n 2, 36, 0, 0), (36, .invokevirtual 38, 39, 0, 0), (39, .aload_n 0, 40, 0, 0), (40, .getfield 28, 43, 0, 0), (43, .getstatic 42, 46, 0, 0), (46, .invokevirtual 48, 49, 0, 0), (49, .ifCond .eq 12, 52, 61, 0), (52, .aload_n 0, 53, 0, 0), (53, .invokevirtual 52, 56, 0, 0), (56, .ifCond .ne 5, 59, 61, 0), (59, .iconst 0, 60, 0, 0), (60, .ireturn, 61, 0, 0), (61, .aload_n 0, 62, 0, 0), (62, .getfield 14, 65, 0, 0)],
  [(65, .invokevirtual 56, 68, 0, 0), (68, .iconst 1, 69, 0, 1), (69, .ireturn, 70, 0, 0)]])
def m_X3_takeKind : aM := (yX3_takeKind, cX3_takeKind, 1, (Option.some Jvm.ClassFile.FieldType.int), [], [[(0, .aload_n 0, 1, 0, 0), (1, .getfield 28, 4, 0, 0), (4, .getstatic 59, 7, 0, 0), (7, .invokevirtual 48, 10, 0, 0), (10, .ifCond .eq 5, 13, 15, 0), (13, .iconst 0, 14, 0, 0), (14, .ireturn, 15, 0, 0), (15, .aload_n 0, 16, 0, 0), (16, .getfield 28, 19, 0, 0), (19, .getstatic 62, 22, 0, 0), (22, .invokevirtual 48, 25, 0, 0), (25, .ifCond .eq 5, 28, 30, 0), (28, .iconst 1, 29, 0, 1), (29, .ireturn, 30, 0, 0), (30, .aload_n 0, 31, 0, 0), (31, .getfield 28, 34, 0, 0), (34, .getstatic 65, 37, 0, 0), (37, .invokevirtual 48, 40, 0, 0), (40, .ifCond .eq 7, 43, 47, 0), (43, .iconst 2, 44, 0, 2), (44, .goto 4, 47, 48, 0), (47, .iconst (-1), 48, 0, (-1)), (48, .ireturn, 49, 0, 0)]])
def m_X3_readCondition : aM := (yX3_readCondition, cX3_readCondition, 3, (Option.some Jvm.ClassFile.FieldType.boolean), [], [[(0, .aload_n 0, 1, 0, 0), (1, .iconst 0, 2, 0, 0), (2, .putfield 68, 5, 0, 0), (5, .aload_n 0, 6, 0, 0), (6, .iconst 0, 7, 0, 0), (7, .putfield 72, 10, 0, 0), (10, .iconst 0, 11, 0, 0), (11, .istore_n 1, 12, 0, 0), (12, .iload_n 1, 13, 0, 0), (13, .sipush 400, 16, 0, 400), (16, .if_icmp .ge 76, 19, 92, 0), (19, .aload_n 0, 20, 0, 0), (20, .invokevirtual 75, 23, 0, 0), (23, .ifCond .eq 10, 26, 33, 0), (26, .aload_n 0, 27, 0, 0), (27, .invokevirtual 78, 30, 0, 0), (30, .ifCond .ne 5, 33, 35, 0), (33, .iconst 0, 34, 0, 0), (34, .ireturn, 35, 0, 0), (35, .aload_n 0, 36, 0, 0), (36, .invokevirtual 81, 39, 0, 0), (39, .aload_n 0, 40, 0, 0), (40, .invokevirtual 84, 43, 0, 0), (43, .istore_n 2, 44, 0, 0), (44, .iload_n 2, 45, 0, 0), (45, .iconst (-1), 46, 0, (-1)), (46, .if_icmp .ne 23, 49, 69, 0), (49, .aload_n 0, 50, 0, 0), (50, .sipush 2005, 53, 0, 2005), (53, .invokevirtual 87, 56, 0, 0), (56, .aload_n 0, 57, 0, 0), (57, .getfield 68, 60, 0, 0), (60, .ifCond .ne 7, 63, 67, 0), (63, .iconst 1, 64, 0, 1)],
  [(64, .goto 4, 67, 68, 0), (67, .iconst 0, 68, 0, 0), (68, .ireturn, 69, 0, 0), (69, .aload_n 0, 70, 0, 0), (70, .iload_n 2, 71, 0, 0), (71, .invokevirtual 87, 74, 0, 0), (74, .aload_n 0, 75, 0, 0), (75, .iload_n 2, 76, 0, 0), (76, .invokevirtual 90, 79, 0, 0), (79, .aload_n 0, 80, 0, 0), (80, .getfield 28, 83, 0, 0), (83, .invokevirtual 93, 86, 0, 0), (86, .iinc 1 1, 89, 0, 1), (89, .goto (-77), 92, 12, 0), (92, .iconst 0, 93, 0, 0), (93, .ireturn, 94, 0, 0)]])
def m_X3_joinAtHand : aM := (yX3_joinAtHand, cX3_joinAtHand, 1, (Option.some Jvm.ClassFile.FieldType.int), [], [[(0, .aload_n 0, 1, 0, 0), (1, .getfield 28, 4, 0, 0), (4, .getfield 96, 7, 0, 0), (7, .getstatic 99, 10, 0, 0), (10, .if_acmp .ne 7, 13, 17, 0), (13, .sipush 2004, 16, 0, 2004), (16, .ireturn, 17, 0, 0), (17, .aload_n 0, 18, 0, 0), (18, .getfield 28, 21, 0, 0), (21, .getfield 96, 24, 0, 0), (24, .getstatic 102, 27, 0, 0), (27, .if_acmp .ne 9, 30, 36, 0), (30, .sipush 2005, 33, 0, 2005), (33, .goto 4, 36, 37, 0), (36, .iconst (-1), 37, 0, (-1)), (37, .ireturn, 38, 0, 0)]])
def m_X3_openDeeper : aM := (yX3_openDeeper, cX3_openDeeper, 3, (Option.some Jvm.ClassFile.FieldType.boolean), [], [[(0, .iconst 0, 1, 0, 0), (1, .istore_n 1, 2, 0, 0), (2, .iload_n 1, 3, 0, 0), (3, .bipush 6, 5, 0, 6), (5, .if_icmp .gt 91, 8, 96, 0), (8, .aload_n 0, 9, 0, 0), (9, .getfield 28, 12, 0, 0), (12, .getfield 96, 15, 0, 0), (15, .getstatic 105, 18, 0, 0), (18, .if_acmp .ne 7, 21, 25, 0), (21, .iconst 1, 22, 0, 1), (22, .goto 4, 25, 26, 0), (25, .iconst 0, 26, 0, 0), (26, .istore_n 2, 27, 0, 0), (27, .iload_n 2, 28, 0, 0), (28, .ifCond .ne 17, 31, 45, 0), (31, .aload_n 0, 32, 0, 0), (32, .getfield 28, 35, 0, 0), (35, .bipush 40, 37, 0, 40), (37, .invokevirtual 108, 40, 0, 0), (40, .ifCond .ne 5, 43, 45, 0), (43, .iconst 1, 44, 0, 1), (44, .ireturn, 45, 0, 0), (45, .aload_n 0, 46, 0, 0), (46, .getfield 72, 49, 0, 0), (49, .bipush 6, 51, 0, 6), (51, .if_icmp .lt 5, 54, 56, 0), (54, .iconst 0, 55, 0, 0), (55, .ireturn, 56, 0, 0), (56, .aload_n 0, 57, 0, 0), (57, .dup, 58, 0, 0), (58, .getfield 72, 61, 0, 0), (61, .iconst 1, 62, 0, 1), (62, .iadd, 63, 0, 0), (63, .putfield 72, 66, 0, 0)],
  [(66, .aload_n 0, 67, 0, 0), (67, .iload_n 2, 68, 0, 0), (68, .ifCond .eq 9, 71, 77, 0), (71, .sipush 2003, 74, 0, 2003), (74, .goto 6, 77, 80, 0), (77, .sipush 2006, 80, 0, 2006), (80, .invokevirtual 90, 83, 0, 0), (83, .aload_n 0, 84, 0, 0), (84, .getfield 28, 87, 0, 0), (87, .invokevirtual 93, 90, 0, 0), (90, .iinc 1 1, 93, 0, 1), (93, .goto (-91), 96, 2, 0), (96, .iconst 0, 97, 0, 0), (97, .ireturn, 98, 0, 0)]])
def m_X3_closeDeeper : aM := (yX3_closeDeeper, cX3_closeDeeper, 2, (Option.none : Option Jvm.ClassFile.FieldType), [], [[(0, .iconst 0, 1, 0, 0), (1, .istore_n 1, 2, 0, 0), (2, .iload_n 1, 3, 0, 0), (3, .bipush 6, 5, 0, 6), (5, .if_icmp .ge 63, 8, 68, 0), (8, .aload_n 0, 9, 0, 0), (9, .getfield 28, 12, 0, 0), (12, .bipush 41, 14, 0, 41), (14, .invokevirtual 108, 17, 0, 0), (17, .ifCond .eq 51, 20, 68, 0), (20, .aload_n 0, 21, 0, 0), (21, .sipush 2005, 24, 0, 2005), (24, .invokevirtual 87, 27, 0, 0), (27, .aload_n 0, 28, 0, 0), (28, .getfield 68, 31, 0, 0), (31, .ifCond .ne 4, 34, 35, 0), (34, .return_, 35, 0, 0), (35, .aload_n 0, 36, 0, 0), (36, .dup, 37, 0, 0), (37, .getfield 68, 40, 0, 0), (40, .iconst 1, 41, 0, 1), (41, .isub, 42, 0, 0), (42, .putfield 68, 45, 0, 0), (45, .aload_n 0, 46, 0, 0), (46, .dup, 47, 0, 0), (47, .getfield 72, 50, 0, 0), (50, .iconst 1, 51, 0, 1), (51, .isub, 52, 0, 0), (52, .putfield 72, 55, 0, 0), (55, .aload_n 0, 56, 0, 0), (56, .getfield 28, 59, 0, 0), (59, .invokevirtual 93, 62, 0, 0), (62, .iinc 1 1, 65, 0, 1)],
  [(65, .goto (-63), 68, 2, 0), (68, .return_, 69, 0, 0)]])
def m_X3_hold : aM := (yX3_hold, cX3_hold, 2, (Option.none : Option Jvm.ClassFile.FieldType), [], [[(0, .aload_n 0, 1, 0, 0), (1, .getfield 20, 4, 0, 0), (4, .aload_n 0, 5, 0, 0), (5, .getfield 68, 8, 0, 0), (8, .iload_n 1, 9, 0, 0), (9, .invokestatic 112, 12, 0, 0), (12, .aload_n 0, 13, 0, 0), (13, .dup, 14, 0, 0), (14, .getfield 68, 17, 0, 0), (17, .iconst 1, 18, 0, 1), (18, .iadd, 19, 0, 0), (19, .putfield 68, 22, 0, 0), (22, .return_, 23, 0, 0)]])
def m_X3_emitHeld : aM := (yX3_emitHeld, cX3_emitHeld, 3, (Option.none : Option Jvm.ClassFile.FieldType), [], [[(0, .aload_n 0, 1, 0, 0), (1, .getfield 68, 4, 0, 0), (4, .ifCond .le 70, 7, 74, 0), (7, .aload_n 0, 8, 0, 0), (8, .getfield 20, 11, 0, 0), (11, .aload_n 0, 12, 0, 0), (12, .getfield 68, 15, 0, 0), (15, .iconst 1, 16, 0, 1), (16, .isub, 17, 0, 0), (17, .invokestatic 116, 20, 0, 0), (20, .iload_n 1, 21, 0, 0), (21, .if_icmp .gt 53, 24, 74, 0), (24, .aload_n 0, 25, 0, 0), (25, .dup, 26, 0, 0), (26, .getfield 68, 29, 0, 0), (29, .iconst 1, 30, 0, 1), (30, .isub, 31, 0, 0), (31, .putfield 68, 34, 0, 0), (34, .aload_n 0, 35, 0, 0), (35, .getfield 20, 38, 0, 0), (38, .aload_n 0, 39, 0, 0), (39, .getfield 68, 42, 0, 0), (42, .invokestatic 116, 45, 0, 0), (45, .istore_n 2, 46, 0, 0), (46, .iload_n 2, 47, 0, 0), (47, .sipush 2003, 50, 0, 2003), (50, .if_icmp .ne 13, 53, 63, 0), (53, .aload_n 0, 54, 0, 0), (54, .dup, 55, 0, 0), (55, .getfield 72, 58, 0, 0), (58, .iconst 1, 59, 0, 1), (59, .isub, 60, 0, 0), (60, .putfield 72, 63, 0, 0), (63, .aload_n 0, 64, 0, 0)],
  [(64, .getfield 14, 67, 0, 0), (67, .iload_n 2, 68, 0, 0), (68, .invokevirtual 120, 71, 0, 0), (71, .goto (-71), 74, 0, 0), (74, .return_, 75, 0, 0)]])
def m_X3_readAtom : aM := (yX3_readAtom, cX3_readAtom, 3, (Option.some Jvm.ClassFile.FieldType.boolean), [], [[(0, .aload_n 0, 1, 0, 0), (1, .getfield 28, 4, 0, 0), (4, .getstatic 123, 7, 0, 0), (7, .invokevirtual 48, 10, 0, 0), (10, .ifCond .eq 15, 13, 25, 0), (13, .aload_n 0, 14, 0, 0), (14, .getfield 14, 17, 0, 0), (17, .sipush 1007, 20, 0, 1007), (20, .invokevirtual 120, 23, 0, 0), (23, .iconst 1, 24, 0, 1), (24, .ireturn, 25, 0, 0), (25, .aload_n 0, 26, 0, 0), (26, .getfield 28, 29, 0, 0), (29, .getstatic 126, 32, 0, 0), (32, .invokevirtual 48, 35, 0, 0), (35, .ifCond .eq 15, 38, 50, 0), (38, .aload_n 0, 39, 0, 0), (39, .getfield 14, 42, 0, 0), (42, .sipush 1008, 45, 0, 1008), (45, .invokevirtual 120, 48, 0, 0), (48, .iconst 1, 49, 0, 1), (49, .ireturn, 50, 0, 0), (50, .aload_n 0, 51, 0, 0), (51, .invokevirtual 129, 54, 0, 0), (54, .ifCond .ne 5, 57, 59, 0), (57, .iconst 0, 58, 0, 0), (58, .ireturn, 59, 0, 0), (59, .aload_n 0, 60, 0, 0), (60, .getfield 28, 63, 0, 0), (63, .bipush 60, 65, 0, 60)],
  [(65, .invokevirtual 108, 68, 0, 0), (68, .ifCond .eq 9, 71, 77, 0), (71, .sipush 2001, 74, 0, 2001), (74, .goto 6, 77, 80, 0), (77, .sipush 2002, 80, 0, 2002), (80, .istore_n 1, 81, 0, 0), (81, .aload_n 0, 82, 0, 0), (82, .getfield 28, 85, 0, 0), (85, .bipush 60, 87, 0, 60), (87, .invokevirtual 132, 90, 0, 0), (90, .ifCond .ne 17, 93, 107, 0), (93, .aload_n 0, 94, 0, 0), (94, .getfield 28, 97, 0, 0), (97, .bipush 62, 99, 0, 62), (99, .invokevirtual 132, 102, 0, 0), (102, .ifCond .ne 5, 105, 107, 0), (105, .iconst 0, 106, 0, 0), (106, .ireturn, 107, 0, 0), (107, .aload_n 0, 108, 0, 0), (108, .invokevirtual 129, 111, 0, 0), (111, .istore_n 2, 112, 0, 0), (112, .aload_n 0, 113, 0, 0), (113, .getfield 14, 116, 0, 0), (116, .iload_n 1, 117, 0, 0), (117, .invokevirtual 120, 120, 0, 0), (120, .iload_n 2, 121, 0, 0), (121, .ireturn, 122, 0, 0)]])
def m_X3_readSum : aM := (yX3_readSum, cX3_readSum, 3, (Option.some Jvm.ClassFile.FieldType.boolean), [], [[(0, .aload_n 0, 1, 0, 0), (1, .invokevirtual 135, 4, 0, 0), (4, .istore_n 1, 5, 0, 0), (5, .iload_n 1, 6, 0, 0), (6, .iconst (-1), 7, 0, (-1)), (7, .if_icmp .ne 5, 10, 12, 0), (10, .iconst 0, 11, 0, 0), (11, .ireturn, 12, 0, 0), (12, .aload_n 0, 13, 0, 0), (13, .getfield 28, 16, 0, 0), (16, .invokevirtual 93, 19, 0, 0), (19, .aload_n 0, 20, 0, 0), (20, .getfield 14, 23, 0, 0), (23, .iload_n 1, 24, 0, 0), (24, .invokevirtual 120, 27, 0, 0), (27, .iconst 0, 28, 0, 0), (28, .istore_n 2, 29, 0, 0), (29, .iload_n 2, 30, 0, 0), (30, .sipush 400, 33, 0, 400), (33, .if_icmp .ge 65, 36, 98, 0), (36, .aload_n 0, 37, 0, 0), (37, .getfield 28, 40, 0, 0), (40, .bipush 43, 42, 0, 43), (42, .invokevirtual 108, 45, 0, 0), (45, .ifCond .eq 53, 48, 98, 0), (48, .aload_n 0, 49, 0, 0), (49, .getfield 28, 52, 0, 0), (52, .invokevirtual 93, 55, 0, 0), (55, .aload_n 0, 56, 0, 0), (56, .invokevirtual 135, 59, 0, 0), (59, .istore_n 1, 60, 0, 0), (60, .iload_n 1, 61, 0, 0), (61, .iconst (-1), 62, 0, (-1)), (62, .if_icmp .ne 5, 65, 67, 0)],
  [(65, .iconst 0, 66, 0, 0), (66, .ireturn, 67, 0, 0), (67, .aload_n 0, 68, 0, 0), (68, .getfield 28, 71, 0, 0), (71, .invokevirtual 93, 74, 0, 0), (74, .aload_n 0, 75, 0, 0), (75, .getfield 14, 78, 0, 0), (78, .iload_n 1, 79, 0, 0), (79, .invokevirtual 120, 82, 0, 0), (82, .aload_n 0, 83, 0, 0), (83, .getfield 14, 86, 0, 0), (86, .sipush 2000, 89, 0, 2000), (89, .invokevirtual 120, 92, 0, 0), (92, .iinc 2 1, 95, 0, 1), (95, .goto (-66), 98, 29, 0), (98, .iconst 1, 99, 0, 1), (99, .ireturn, 100, 0, 0)]])
def m_X3_partAtHand : aM := (yX3_partAtHand, cX3_partAtHand, 2, (Option.some Jvm.ClassFile.FieldType.int), [], [[(0, .aload_n 0, 1, 0, 0), (1, .getfield 28, 4, 0, 0), (4, .getfield 138, 7, 0, 0), (7, .iconst 2, 8, 0, 2), (8, .if_icmp .ne 11, 11, 19, 0), (11, .aload_n 0, 12, 0, 0), (12, .getfield 28, 15, 0, 0), (15, .getfield 141, 18, 0, 0), (18, .ireturn, 19, 0, 0), (19, .aload_n 0, 20, 0, 0), (20, .getfield 28, 23, 0, 0), (23, .getfield 96, 26, 0, 0), (26, .astore_n 1, 27, 0, 0), (27, .aload_n 1, 28, 0, 0), (28, .ifnonnull 7, 31, 35, 0), (31, .iconst (-1), 32, 0, (-1)), (32, .goto 7, 35, 39, 0), (35, .aload_n 1, 36, 0, 0), (36, .getfield 144, 39, 0, 0), (39, .ireturn, 40, 0, 0)]])
def m_X4_chainOf : aM := (yX4_chainOf, cX4_chainOf, 5, (Option.some Jvm.ClassFile.FieldType.int), [], [[(0, .iconst 0, 1, 0, 0), (1, .istore_n 2, 2, 0, 0), (2, .aload_n 0, 3, 0, 0), (3, .getfield 9, 6, 0, 0), (6, .iload_n 1, 7, 0, 0), (7, .invokestatic 15, 10, 0, 0), (10, .istore_n 3, 11, 0, 0), (11, .iconst 0, 12, 0, 0), (12, .istore 4, 14, 0, 0), (14, .iload 4, 16, 0, 0), (16, .bipush 12, 18, 0, 12), (18, .if_icmp .ge 30, 21, 48, 0), (21, .iload_n 3, 22, 0, 0), (22, .iconst (-1), 23, 0, (-1)), (23, .if_icmp .eq 25, 26, 48, 0), (26, .iload_n 2, 27, 0, 0), (27, .iload_n 3, 28, 0, 0), (28, .invokestatic 19, 31, 0, 0), (31, .ior, 32, 0, 0), (32, .istore_n 2, 33, 0, 0), (33, .aload_n 0, 34, 0, 0), (34, .getfield 9, 37, 0, 0), (37, .iload_n 3, 38, 0, 0), (38, .invokestatic 15, 41, 0, 0), (41, .istore_n 3, 42, 0, 0), (42, .iinc 4 1, 45, 0, 1), (45, .goto (-31), 48, 14, 0), (48, .iload_n 2, 49, 0, 0), (49, .ireturn, 50, 0, 0)]])
def m_X4_leaningOn : aM := (yX4_leaningOn, cX4_leaningOn, 4, (Option.some Jvm.ClassFile.FieldType.int), [], [[(0, .iconst 0, 1, 0, 0), (1, .istore_n 2, 2, 0, 0), (2, .iconst 0, 3, 0, 0), (3, .istore_n 3, 4, 0, 0), (4, .iload_n 3, 5, 0, 0), (5, .aload_n 0, 6, 0, 0), (6, .getfield 23, 9, 0, 0), (9, .if_icmp .ge 28, 12, 37, 0), (12, .aload_n 0, 13, 0, 0), (13, .iload_n 3, 14, 0, 0), (14, .invokestatic 27, 17, 0, 0), (17, .iload_n 1, 18, 0, 0), (18, .invokestatic 33, 21, 0, 0), (21, .ifCond .eq 10, 24, 31, 0), (24, .iload_n 2, 25, 0, 0), (25, .iload_n 3, 26, 0, 0), (26, .invokestatic 19, 29, 0, 0), (29, .ior, 30, 0, 0), (30, .istore_n 2, 31, 0, 0), (31, .iinc 3 1, 34, 0, 1), (34, .goto (-30), 37, 4, 0), (37, .iload_n 2, 38, 0, 0), (38, .ireturn, 39, 0, 0)]])
def m_X4_ringBits : aM := (yX4_ringBits, cX4_ringBits, 3, (Option.some Jvm.ClassFile.FieldType.int), [], [[(0, .iconst 0, 1, 0, 0), (1, .istore_n 1, 2, 0, 0), (2, .iconst 0, 3, 0, 0), (3, .istore_n 2, 4, 0, 0), (4, .iload_n 2, 5, 0, 0), (5, .aload_n 0, 6, 0, 0), (6, .getfield 23, 9, 0, 0), (9, .if_icmp .ge 28, 12, 37, 0), (12, .aload_n 0, 13, 0, 0), (13, .iload_n 2, 14, 0, 0), (14, .invokestatic 27, 17, 0, 0), (17, .iload_n 2, 18, 0, 0), (18, .invokestatic 33, 21, 0, 0), (21, .ifCond .eq 10, 24, 31, 0), (24, .iload_n 1, 25, 0, 0), (25, .iload_n 2, 26, 0, 0), (26, .invokestatic 19, 29, 0, 0), (29, .ior, 30, 0, 0), (30, .istore_n 1, 31, 0, 0), (31, .iinc 2 1, 34, 0, 1), (34, .goto (-30), 37, 4, 0), (37, .iload_n 1, 38, 0, 0), (38, .ireturn, 39, 0, 0)]])
def m_X4_hoursTill : aM := (yX4_hoursTill, cX4_hoursTill, 2, (Option.some Jvm.ClassFile.FieldType.int), [], [[(0, .aload_n 0, 1, 0, 0), (1, .iload_n 1, 2, 0, 0), (2, .invokevirtual 37, 5, 0, 0), (5, .ifCond .eq 20, 8, 25, 0), (8, .aload_n 0, 9, 0, 0), (9, .iload_n 1, 10, 0, 0), (10, .invokestatic 19, 13, 0, 0), (13, .aload_n 0, 14, 0, 0), (14, .iload_n 1, 15, 0, 0), (15, .invokestatic 27, 18, 0, 0), (18, .ior, 19, 0, 0), (19, .invokestatic 41, 22, 0, 0), (22, .goto 4, 25, 26, 0), (25, .iconst 0, 26, 0, 0), (26, .ireturn, 27, 0, 0)]])
def m_X4_hoursTillYoung : aM := (yX4_hoursTillYoung, cX4_hoursTillYoung, 5, (Option.some Jvm.ClassFile.FieldType.int), [], [[(0, .aload_n 0, 1, 0, 0), (1, .iload_n 1, 2, 0, 0), (2, .invokevirtual 44, 5, 0, 0), (5, .istore_n 2, 6, 0, 0), (6, .iload_n 2, 7, 0, 0), (7, .istore_n 3, 8, 0, 0), (8, .iconst 0, 9, 0, 0), (9, .istore 4, 11, 0, 0), (11, .iload 4, 13, 0, 0), (13, .aload_n 0, 14, 0, 0), (14, .getfield 23, 17, 0, 0), (17, .if_icmp .ge 27, 20, 44, 0), (20, .iload_n 2, 21, 0, 0), (21, .iload 4, 23, 0, 0), (23, .invokestatic 33, 26, 0, 0), (26, .ifCond .eq 12, 29, 38, 0), (29, .iload_n 3, 30, 0, 0), (30, .aload_n 0, 31, 0, 0), (31, .iload 4, 33, 0, 0), (33, .invokestatic 27, 36, 0, 0), (36, .ior, 37, 0, 0), (37, .istore_n 3, 38, 0, 0), (38, .iinc 4 1, 41, 0, 1), (41, .goto (-30), 44, 11, 0), (44, .aload_n 0, 45, 0, 0), (45, .iload_n 3, 46, 0, 0), (46, .aload_n 0, 47, 0, 0), (47, .iconst 1, 48, 0, 1), (48, .invokevirtual 47, 51, 0, 0), (51, .iconst (-1), 52, 0, (-1)), (52, .ixor, 53, 0, 0), (53, .iand, 54, 0, 0), (54, .invokestatic 41, 57, 0, 0), (57, .ireturn, 58, 0, 0)]])
def m_X4_hoursOf : aM := (yX4_hoursOf, cX4_hoursOf, 3, (Option.some Jvm.ClassFile.FieldType.int), [], [[(0, .aload_n 0, 1, 0, 0), (1, .invokestatic 50, 4, 0, 0), (4, .aload_n 0, 5, 0, 0), (5, .iconst 2, 6, 0, 2), (6, .invokevirtual 47, 9, 0, 0), (9, .ior, 10, 0, 0), (10, .istore_n 2, 11, 0, 0), (11, .iload_n 1, 12, 0, 0), (12, .iload_n 2, 13, 0, 0), (13, .iand, 14, 0, 0), (14, .ifCond .eq 7, 17, 21, 0), (17, .iconst (-1), 18, 0, (-1)), (18, .goto 11, 21, 29, 0), (21, .aload_n 0, 22, 0, 0), (22, .getfield 54, 25, 0, 0), (25, .iload_n 1, 26, 0, 0), (26, .invokestatic 57, 29, 0, 0), (29, .ireturn, 30, 0, 0)]])
def m_X5_init : aM := (yX5_init, cX5_init, 1, (Option.none : Option Jvm.ClassFile.FieldType), [], [[(0, .aload_n 0, 1, 0, 0), (1, .invokespecial 3, 4, 0, 0), (4, .aload_n 0, 5, 0, 0), (5, .bipush 6, 7, 0, 6), (7, .newarray .int, 9, 0, 0), (9, .putfield 9, 12, 0, 0), (12, .aload_n 0, 13, 0, 0), (13, .bipush 6, 15, 0, 6), (15, .newarray .int, 17, 0, 0), (17, .putfield 15, 20, 0, 0), (20, .aload_n 0, 21, 0, 0), (21, .bipush 12, 23, 0, 12), (23, .newarray .int, 25, 0, 0), (25, .putfield 18, 28, 0, 0), (28, .aload_n 0, 29, 0, 0), (29, .bipush 12, 31, 0, 12), (31, .newarray .int, 33, 0, 0), (33, .putfield 21, 36, 0, 0), (36, .aload_n 0, 37, 0, 0), (37, .bipush 12, 39, 0, 12), (39, .newarray .int, 41, 0, 0), (41, .putfield 24, 44, 0, 0), (44, .aload_n 0, 45, 0, 0), (45, .bipush 12, 47, 0, 12), (47, .newarray .int, 49, 0, 0), (49, .putfield 27, 52, 0, 0), (52, .aload_n 0, 53, 0, 0), (53, .bipush 12, 55, 0, 12), (55, .newarray .int, 57, 0, 0), (57, .putfield 30, 60, 0, 0), (60, .aload_n 0, 61, 0, 0), (61, .bipush 12, 63, 0, 12), (63, .newarray .int, 65, 0, 0)],
  [(65, .putfield 33, 68, 0, 0), (68, .aload_n 0, 69, 0, 0), (69, .iconst 1, 70, 0, 1), (70, .putfield 36, 73, 0, 0), (73, .aload_n 0, 74, 0, 0), (74, .iconst 2, 75, 0, 2), (75, .putfield 40, 78, 0, 0), (78, .aload_n 0, 79, 0, 0), (79, .iconst 3, 80, 0, 3), (80, .putfield 43, 83, 0, 0), (83, .aload_n 0, 84, 0, 0), (84, .iconst 1, 85, 0, 1), (85, .putfield 46, 88, 0, 0), (88, .aload_n 0, 89, 0, 0), (89, .new 49, 92, 0, 0), (92, .dup, 93, 0, 0), (93, .invokespecial 51, 96, 0, 0), (96, .putfield 52, 99, 0, 0), (99, .return_, 100, 0, 0)]])
def m_X5_copyFrom : aM := (yX5_copyFrom, cX5_copyFrom, 2, (Option.none : Option Jvm.ClassFile.FieldType), [], [[(0, .aload_n 0, 1, 0, 0), (1, .aload_n 1, 2, 0, 0), (2, .getfield 56, 5, 0, 0), (5, .putfield 56, 8, 0, 0), (8, .aload_n 1, 9, 0, 0), (9, .getfield 9, 12, 0, 0), (12, .aload_n 0, 13, 0, 0), (13, .getfield 9, 16, 0, 0), (16, .invokestatic 59, 19, 0, 0), (19, .aload_n 1, 20, 0, 0), (20, .getfield 15, 23, 0, 0), (23, .aload_n 0, 24, 0, 0), (24, .getfield 15, 27, 0, 0), (27, .invokestatic 59, 30, 0, 0), (30, .aload_n 0, 31, 0, 0), (31, .aload_n 1, 32, 0, 0), (32, .getfield 63, 35, 0, 0), (35, .putfield 63, 38, 0, 0), (38, .aload_n 1, 39, 0, 0), (39, .getfield 18, 42, 0, 0), (42, .aload_n 0, 43, 0, 0), (43, .getfield 18, 46, 0, 0), (46, .invokestatic 59, 49, 0, 0), (49, .aload_n 1, 50, 0, 0), (50, .getfield 21, 53, 0, 0), (53, .aload_n 0, 54, 0, 0), (54, .getfield 21, 57, 0, 0), (57, .invokestatic 59, 60, 0, 0), (60, .aload_n 1, 61, 0, 0), (61, .getfield 24, 64, 0, 0)],
  [(64, .aload_n 0, 65, 0, 0), (65, .getfield 24, 68, 0, 0), (68, .invokestatic 59, 71, 0, 0), (71, .aload_n 1, 72, 0, 0), (72, .getfield 27, 75, 0, 0), (75, .aload_n 0, 76, 0, 0), (76, .getfield 27, 79, 0, 0), (79, .invokestatic 59, 82, 0, 0), (82, .aload_n 1, 83, 0, 0), (83, .getfield 30, 86, 0, 0), (86, .aload_n 0, 87, 0, 0), (87, .getfield 30, 90, 0, 0), (90, .invokestatic 59, 93, 0, 0), (93, .aload_n 1, 94, 0, 0), (94, .getfield 33, 97, 0, 0), (97, .aload_n 0, 98, 0, 0), (98, .getfield 33, 101, 0, 0), (101, .invokestatic 59, 104, 0, 0), (104, .aload_n 0, 105, 0, 0), (105, .aload_n 1, 106, 0, 0), (106, .getfield 36, 109, 0, 0), (109, .putfield 36, 112, 0, 0), (112, .aload_n 0, 113, 0, 0), (113, .aload_n 1, 114, 0, 0), (114, .getfield 66, 117, 0, 0), (117, .putfield 66, 120, 0, 0), (120, .aload_n 0, 121, 0, 0), (121, .aload_n 1, 122, 0, 0), (122, .getfield 69, 125, 0, 0), (125, .putfield 69, 128, 0, 0)],
  [(128, .aload_n 0, 129, 0, 0), (129, .aload_n 1, 130, 0, 0), (130, .getfield 40, 133, 0, 0), (133, .putfield 40, 136, 0, 0), (136, .aload_n 0, 137, 0, 0), (137, .aload_n 1, 138, 0, 0), (138, .getfield 43, 141, 0, 0), (141, .putfield 43, 144, 0, 0), (144, .aload_n 0, 145, 0, 0), (145, .aload_n 1, 146, 0, 0), (146, .getfield 46, 149, 0, 0), (149, .putfield 46, 152, 0, 0), (152, .aload_n 0, 153, 0, 0), (153, .aload_n 1, 154, 0, 0), (154, .getfield 72, 157, 0, 0), (157, .putfield 72, 160, 0, 0), (160, .return_, 161, 0, 0)]])
def m_X5_copyAll : aM := (yX5_copyAll, cX5_copyAll, 2, (Option.none : Option Jvm.ClassFile.FieldType), [], [[(0, .aload_n 0, 1, 0, 0), (1, .aload_n 1, 2, 0, 0), (2, .invokevirtual 75, 5, 0, 0), (5, .aload_n 0, 6, 0, 0), (6, .getfield 52, 9, 0, 0), (9, .aload_n 1, 10, 0, 0), (10, .getfield 52, 13, 0, 0), (13, .invokevirtual 79, 16, 0, 0), (16, .return_, 17, 0, 0)]])
def m_X5_addPerson : aM := (yX5_addPerson, cX5_addPerson, 3, (Option.none : Option Jvm.ClassFile.FieldType), [], [[(0, .aload_n 0, 1, 0, 0), (1, .getfield 9, 4, 0, 0), (4, .aload_n 0, 5, 0, 0), (5, .getfield 56, 8, 0, 0), (8, .iload_n 1, 9, 0, 0), (9, .invokestatic 82, 12, 0, 0), (12, .aload_n 0, 13, 0, 0), (13, .getfield 15, 16, 0, 0), (16, .aload_n 0, 17, 0, 0), (17, .getfield 56, 20, 0, 0), (20, .iload_n 2, 21, 0, 0), (21, .invokestatic 82, 24, 0, 0), (24, .aload_n 0, 25, 0, 0), (25, .dup, 26, 0, 0), (26, .getfield 56, 29, 0, 0), (29, .iconst 1, 30, 0, 1), (30, .iadd, 31, 0, 0), (31, .putfield 56, 34, 0, 0), (34, .return_, 35, 0, 0)]])
def m_X5_addDuty : aM := (yX5_addDuty, cX5_addDuty, 6, (Option.none : Option Jvm.ClassFile.FieldType), [], [[(0, .aload_n 0, 1, 0, 0), (1, .getfield 18, 4, 0, 0), (4, .aload_n 0, 5, 0, 0), (5, .getfield 63, 8, 0, 0), (8, .iload_n 1, 9, 0, 0), (9, .invokestatic 82, 12, 0, 0), (12, .aload_n 0, 13, 0, 0), (13, .getfield 21, 16, 0, 0), (16, .aload_n 0, 17, 0, 0), (17, .getfield 63, 20, 0, 0), (20, .iload_n 2, 21, 0, 0), (21, .invokestatic 82, 24, 0, 0), (24, .aload_n 0, 25, 0, 0), (25, .getfield 24, 28, 0, 0), (28, .aload_n 0, 29, 0, 0), (29, .getfield 63, 32, 0, 0), (32, .iload_n 3, 33, 0, 0), (33, .invokestatic 82, 36, 0, 0), (36, .aload_n 0, 37, 0, 0), (37, .getfield 27, 40, 0, 0), (40, .aload_n 0, 41, 0, 0), (41, .getfield 63, 44, 0, 0), (44, .iload 4, 46, 0, 0), (46, .invokestatic 82, 49, 0, 0), (49, .aload_n 0, 50, 0, 0), (50, .getfield 30, 53, 0, 0), (53, .aload_n 0, 54, 0, 0), (54, .getfield 63, 57, 0, 0), (57, .iload 5, 59, 0, 0), (59, .invokestatic 82, 62, 0, 0), (62, .aload_n 0, 63, 0, 0), (63, .getfield 33, 66, 0, 0)],
  [(66, .aload_n 0, 67, 0, 0), (67, .getfield 63, 70, 0, 0), (70, .iconst 0, 71, 0, 0), (71, .invokestatic 82, 74, 0, 0), (74, .aload_n 0, 75, 0, 0), (75, .dup, 76, 0, 0), (76, .getfield 63, 79, 0, 0), (79, .iconst 1, 80, 0, 1), (80, .iadd, 81, 0, 0), (81, .putfield 63, 84, 0, 0), (84, .return_, 85, 0, 0)]])
def m_X5_isWaiting : aM := (yX5_isWaiting, cX5_isWaiting, 2, (Option.some Jvm.ClassFile.FieldType.boolean), [], [[(0, .iload_n 1, 1, 0, 0), (1, .ifCond .lt 26, 4, 27, 0), (4, .iload_n 1, 5, 0, 0), (5, .aload_n 0, 6, 0, 0), (6, .getfield 63, 9, 0, 0), (9, .if_icmp .ge 18, 12, 27, 0), (12, .aload_n 0, 13, 0, 0), (13, .getfield 33, 16, 0, 0), (16, .iload_n 1, 17, 0, 0), (17, .invokestatic 86, 20, 0, 0), (20, .ifCond .ne 7, 23, 27, 0), (23, .iconst 1, 24, 0, 1), (24, .goto 4, 27, 28, 0), (27, .iconst 0, 28, 0, 0), (28, .ireturn, 29, 0, 0)]])
def m_X5_leansFreely : aM := (yX5_leansFreely, cX5_leansFreely, 3, (Option.some Jvm.ClassFile.FieldType.boolean), [], [[(0, .aload_n 0, 1, 0, 0), (1, .getfield 30, 4, 0, 0), (4, .iload_n 1, 5, 0, 0), (5, .invokestatic 86, 8, 0, 0), (8, .istore_n 2, 9, 0, 0), (9, .iload_n 2, 10, 0, 0), (10, .iconst (-1), 11, 0, (-1)), (11, .if_icmp .eq 15, 14, 26, 0), (14, .aload_n 0, 15, 0, 0), (15, .getfield 33, 18, 0, 0), (18, .iload_n 2, 19, 0, 0), (19, .invokestatic 86, 22, 0, 0), (22, .iconst 1, 23, 0, 1), (23, .if_icmp .ne 7, 26, 30, 0), (26, .iconst 1, 27, 0, 1), (27, .goto 4, 30, 31, 0), (30, .iconst 0, 31, 0, 0), (31, .ireturn, 32, 0, 0)]])
def m_X5_isReady : aM := (yX5_isReady, cX5_isReady, 2, (Option.some Jvm.ClassFile.FieldType.boolean), [], [[(0, .aload_n 0, 1, 0, 0), (1, .iload_n 1, 2, 0, 0), (2, .invokevirtual 90, 5, 0, 0), (5, .ifCond .eq 15, 8, 20, 0), (8, .aload_n 0, 9, 0, 0), (9, .iload_n 1, 10, 0, 0), (10, .invokevirtual 94, 13, 0, 0), (13, .ifCond .eq 7, 16, 20, 0), (16, .iconst 1, 17, 0, 1), (17, .goto 4, 20, 21, 0), (20, .iconst 0, 21, 0, 0), (21, .ireturn, 22, 0, 0)]])
def m_X5_areAlike : aM := (yX5_areAlike, cX5_areAlike, 3, (Option.some Jvm.ClassFile.FieldType.boolean), [], [[(0, .aload_n 0, 1, 0, 0), (1, .iload_n 1, 2, 0, 0), (2, .invokevirtual 90, 5, 0, 0), (5, .ifCond .eq 53, 8, 58, 0), (8, .aload_n 0, 9, 0, 0), (9, .iload_n 2, 10, 0, 0), (10, .invokevirtual 90, 13, 0, 0), (13, .ifCond .eq 45, 16, 58, 0), (16, .aload_n 0, 17, 0, 0), (17, .getfield 21, 20, 0, 0), (20, .iload_n 1, 21, 0, 0), (21, .invokestatic 86, 24, 0, 0), (24, .aload_n 0, 25, 0, 0), (25, .getfield 21, 28, 0, 0), (28, .iload_n 2, 29, 0, 0), (29, .invokestatic 86, 32, 0, 0), (32, .if_icmp .ne 26, 35, 58, 0), (35, .aload_n 0, 36, 0, 0), (36, .getfield 24, 39, 0, 0), (39, .iload_n 1, 40, 0, 0), (40, .invokestatic 86, 43, 0, 0), (43, .aload_n 0, 44, 0, 0), (44, .getfield 24, 47, 0, 0), (47, .iload_n 2, 48, 0, 0), (48, .invokestatic 86, 51, 0, 0), (51, .if_icmp .ne 7, 54, 58, 0), (54, .iconst 1, 55, 0, 1), (55, .goto 4, 58, 59, 0), (58, .iconst 0, 59, 0, 0), (59, .ireturn, 60, 0, 0)]])
def m_X5_bitsIn : aM := (yX5_bitsIn, cX5_bitsIn, 4, (Option.some Jvm.ClassFile.FieldType.int), [], [[(0, .iconst 0, 1, 0, 0), (1, .istore_n 2, 2, 0, 0), (2, .iconst 0, 3, 0, 0), (3, .istore_n 3, 4, 0, 0), (4, .iload_n 3, 5, 0, 0), (5, .aload_n 0, 6, 0, 0), (6, .getfield 63, 9, 0, 0), (9, .if_icmp .ge 28, 12, 37, 0), (12, .aload_n 0, 13, 0, 0), (13, .getfield 33, 16, 0, 0), (16, .iload_n 3, 17, 0, 0), (17, .invokestatic 86, 20, 0, 0), (20, .iload_n 1, 21, 0, 0), (21, .if_icmp .ne 10, 24, 31, 0), (24, .iload_n 2, 25, 0, 0), (25, .iload_n 3, 26, 0, 0), (26, .invokestatic 97, 29, 0, 0), (29, .ior, 30, 0, 0), (30, .istore_n 2, 31, 0, 0), (31, .iinc 3 1, 34, 0, 1), (34, .goto (-30), 37, 4, 0), (37, .iload_n 2, 38, 0, 0), (38, .ireturn, 39, 0, 0)]])
def m_X5_readyBits : aM := (yX5_readyBits, cX5_readyBits, 3, (Option.some Jvm.ClassFile.FieldType.int), [], [[(0, .iconst 0, 1, 0, 0), (1, .istore_n 1, 2, 0, 0), (2, .iconst 0, 3, 0, 0), (3, .istore_n 2, 4, 0, 0), (4, .iload_n 2, 5, 0, 0), (5, .aload_n 0, 6, 0, 0), (6, .getfield 63, 9, 0, 0), (9, .if_icmp .ge 24, 12, 33, 0), (12, .aload_n 0, 13, 0, 0), (13, .iload_n 2, 14, 0, 0), (14, .invokevirtual 101, 17, 0, 0), (17, .ifCond .eq 10, 20, 27, 0), (20, .iload_n 1, 21, 0, 0), (21, .iload_n 2, 22, 0, 0), (22, .invokestatic 97, 25, 0, 0), (25, .ior, 26, 0, 0), (26, .istore_n 1, 27, 0, 0), (27, .iinc 2 1, 30, 0, 1), (30, .goto (-26), 33, 4, 0), (33, .iload_n 1, 34, 0, 0), (34, .ireturn, 35, 0, 0)]])
def m_X5_olderThan : aM := (yX5_olderThan, cX5_olderThan, 4, (Option.some Jvm.ClassFile.FieldType.int), [], [[(0, .iconst 0, 1, 0, 0), (1, .istore_n 2, 2, 0, 0), (2, .iconst 0, 3, 0, 0), (3, .istore_n 3, 4, 0, 0), (4, .iload_n 3, 5, 0, 0), (5, .aload_n 0, 6, 0, 0), (6, .getfield 63, 9, 0, 0), (9, .if_icmp .ge 36, 12, 45, 0), (12, .aload_n 0, 13, 0, 0), (13, .iload_n 3, 14, 0, 0), (14, .invokevirtual 90, 17, 0, 0), (17, .ifCond .eq 22, 20, 39, 0), (20, .aload_n 0, 21, 0, 0), (21, .getfield 24, 24, 0, 0), (24, .iload_n 3, 25, 0, 0), (25, .invokestatic 86, 28, 0, 0), (28, .iload_n 1, 29, 0, 0), (29, .if_icmp .le 10, 32, 39, 0), (32, .iload_n 2, 33, 0, 0), (33, .iload_n 3, 34, 0, 0), (34, .invokestatic 97, 37, 0, 0), (37, .ior, 38, 0, 0), (38, .istore_n 2, 39, 0, 0), (39, .iinc 3 1, 42, 0, 1), (42, .goto (-38), 45, 4, 0), (45, .iload_n 2, 46, 0, 0), (46, .ireturn, 47, 0, 0)]])
def m_X5_ownedBy : aM := (yX5_ownedBy, cX5_ownedBy, 4, (Option.some Jvm.ClassFile.FieldType.int), [], [[(0, .iconst 0, 1, 0, 0), (1, .istore_n 2, 2, 0, 0), (2, .iconst 0, 3, 0, 0), (3, .istore_n 3, 4, 0, 0), (4, .iload_n 3, 5, 0, 0), (5, .aload_n 0, 6, 0, 0), (6, .getfield 63, 9, 0, 0), (9, .if_icmp .ge 28, 12, 37, 0), (12, .aload_n 0, 13, 0, 0), (13, .getfield 18, 16, 0, 0), (16, .iload_n 3, 17, 0, 0), (17, .invokestatic 86, 20, 0, 0), (20, .iload_n 1, 21, 0, 0), (21, .if_icmp .ne 10, 24, 31, 0), (24, .iload_n 2, 25, 0, 0), (25, .iload_n 3, 26, 0, 0), (26, .invokestatic 97, 29, 0, 0), (29, .ior, 30, 0, 0), (30, .istore_n 2, 31, 0, 0), (31, .iinc 3 1, 34, 0, 1), (34, .goto (-30), 37, 4, 0), (37, .iload_n 2, 38, 0, 0), (38, .ireturn, 39, 0, 0)]])
def m_X5_loadOf : aM := (yX5_loadOf, cX5_loadOf, 2, (Option.some Jvm.ClassFile.FieldType.int), [], [[(0, .aload_n 0, 1, 0, 0), (1, .getfield 21, 4, 0, 0), (4, .aload_n 0, 5, 0, 0), (5, .iconst 0, 6, 0, 0), (6, .invokevirtual 104, 9, 0, 0), (9, .aload_n 0, 10, 0, 0), (10, .iload_n 1, 11, 0, 0), (11, .invokevirtual 107, 14, 0, 0), (14, .iand, 15, 0, 0), (15, .invokestatic 110, 18, 0, 0), (18, .ireturn, 19, 0, 0)]])
def m_X5_standingBetween : aM := (yX5_standingBetween, cX5_standingBetween, 5, (Option.some Jvm.ClassFile.FieldType.int), [], [[(0, .iconst 0, 1, 0, 0), (1, .istore_n 3, 2, 0, 0), (2, .iconst 0, 3, 0, 0), (3, .istore 4, 5, 0, 0), (5, .iload 4, 7, 0, 0), (7, .aload_n 0, 8, 0, 0), (8, .getfield 56, 11, 0, 0), (11, .if_icmp .ge 43, 14, 54, 0), (14, .aload_n 0, 15, 0, 0), (15, .getfield 9, 18, 0, 0), (18, .iload 4, 20, 0, 0), (20, .invokestatic 86, 23, 0, 0), (23, .iload_n 1, 24, 0, 0), (24, .if_icmp .lt 24, 27, 48, 0), (27, .aload_n 0, 28, 0, 0), (28, .getfield 9, 31, 0, 0), (31, .iload 4, 33, 0, 0), (33, .invokestatic 86, 36, 0, 0), (36, .iload_n 2, 37, 0, 0), (37, .if_icmp .gt 11, 40, 48, 0), (40, .iload_n 3, 41, 0, 0), (41, .iload 4, 43, 0, 0), (43, .invokestatic 97, 46, 0, 0), (46, .ior, 47, 0, 0), (47, .istore_n 3, 48, 0, 0), (48, .iinc 4 1, 51, 0, 1), (51, .goto (-46), 54, 5, 0), (54, .iload_n 3, 55, 0, 0), (55, .ireturn, 56, 0, 0)]])
def m_X5_placeOf : aM := (yX5_placeOf, cX5_placeOf, 6, (Option.some Jvm.ClassFile.FieldType.int), [], [[(0, .aload_n 0, 1, 0, 0), (1, .iload_n 1, 2, 0, 0), (2, .invokevirtual 90, 5, 0, 0), (5, .ifCond .ne 5, 8, 10, 0), (8, .iconst (-1), 9, 0, (-1)), (9, .ireturn, 10, 0, 0), (10, .aload_n 0, 11, 0, 0), (11, .getfield 24, 14, 0, 0), (14, .iload_n 1, 15, 0, 0), (15, .invokestatic 86, 18, 0, 0), (18, .istore_n 2, 19, 0, 0), (19, .iconst 0, 20, 0, 0), (20, .istore_n 3, 21, 0, 0), (21, .iconst 0, 22, 0, 0), (22, .istore 4, 24, 0, 0), (24, .iload 4, 26, 0, 0), (26, .aload_n 0, 27, 0, 0), (27, .getfield 63, 30, 0, 0), (30, .if_icmp .ge 50, 33, 80, 0), (33, .aload_n 0, 34, 0, 0), (34, .getfield 24, 37, 0, 0), (37, .iload 4, 39, 0, 0), (39, .invokestatic 86, 42, 0, 0), (42, .istore 5, 44, 0, 0), (44, .aload_n 0, 45, 0, 0), (45, .iload 4, 47, 0, 0), (47, .invokevirtual 90, 50, 0, 0), (50, .ifCond .eq 24, 53, 74, 0), (53, .iload 5, 55, 0, 0), (55, .iload_n 2, 56, 0, 0), (56, .if_icmp .lt 15, 59, 71, 0), (59, .iload 5, 61, 0, 0), (61, .iload_n 2, 62, 0, 0), (62, .if_icmp .ne 12, 65, 74, 0)],
  [(65, .iload 4, 67, 0, 0), (67, .iload_n 1, 68, 0, 0), (68, .if_icmp .ge 6, 71, 74, 0), (71, .iinc 3 1, 74, 0, 1), (74, .iinc 4 1, 77, 0, 1), (77, .goto (-53), 80, 24, 0), (80, .iload_n 3, 81, 0, 0), (81, .ireturn, 82, 0, 0)]])
def m_X5_dutyAt : aM := (yX5_dutyAt, cX5_dutyAt, 3, (Option.some Jvm.ClassFile.FieldType.int), [], [[(0, .iconst 0, 1, 0, 0), (1, .istore_n 2, 2, 0, 0), (2, .iload_n 2, 3, 0, 0), (3, .aload_n 0, 4, 0, 0), (4, .getfield 63, 7, 0, 0), (7, .if_icmp .ge 28, 10, 35, 0), (10, .aload_n 0, 11, 0, 0), (11, .iload_n 2, 12, 0, 0), (12, .invokevirtual 90, 15, 0, 0), (15, .ifCond .eq 14, 18, 29, 0), (18, .aload_n 0, 19, 0, 0), (19, .iload_n 2, 20, 0, 0), (20, .invokevirtual 113, 23, 0, 0), (23, .iload_n 1, 24, 0, 0), (24, .if_icmp .ne 5, 27, 29, 0), (27, .iload_n 2, 28, 0, 0), (28, .ireturn, 29, 0, 0), (29, .iinc 2 1, 32, 0, 1), (32, .goto (-30), 35, 2, 0), (35, .iconst (-1), 36, 0, (-1)), (36, .ireturn, 37, 0, 0)]])
def m_X5_passesOf : aM := (yX5_passesOf, cX5_passesOf, 3, (Option.some Jvm.ClassFile.FieldType.int), [], [[(0, .aload_n 0, 1, 0, 0), (1, .iload_n 1, 2, 0, 0), (2, .invokevirtual 90, 5, 0, 0), (5, .ifCond .ne 5, 8, 10, 0), (8, .iconst 0, 9, 0, 0), (9, .ireturn, 10, 0, 0), (10, .aload_n 0, 11, 0, 0), (11, .iconst 0, 12, 0, 0), (12, .invokevirtual 104, 15, 0, 0), (15, .aload_n 0, 16, 0, 0), (16, .aload_n 0, 17, 0, 0), (17, .getfield 24, 20, 0, 0), (20, .iload_n 1, 21, 0, 0), (21, .invokestatic 86, 24, 0, 0), (24, .invokevirtual 116, 27, 0, 0), (27, .iconst (-1), 28, 0, (-1)), (28, .ixor, 29, 0, 0), (29, .iand, 30, 0, 0), (30, .istore_n 2, 31, 0, 0), (31, .aload_n 0, 32, 0, 0), (32, .getfield 40, 35, 0, 0), (35, .iload_n 2, 36, 0, 0), (36, .invokestatic 119, 39, 0, 0), (39, .imul, 40, 0, 0), (40, .ireturn, 41, 0, 0)]])
def m_X5_canBits : aM := (yX5_canBits, cX5_canBits, 3, (Option.some Jvm.ClassFile.FieldType.int), [], [[(0, .iconst 0, 1, 0, 0), (1, .istore_n 1, 2, 0, 0), (2, .iconst 0, 3, 0, 0), (3, .istore_n 2, 4, 0, 0), (4, .iload_n 2, 5, 0, 0), (5, .aload_n 0, 6, 0, 0), (6, .getfield 63, 9, 0, 0), (9, .if_icmp .ge 40, 12, 49, 0), (12, .aload_n 0, 13, 0, 0), (13, .iload_n 2, 14, 0, 0), (14, .invokevirtual 101, 17, 0, 0), (17, .ifCond .eq 26, 20, 43, 0), (20, .aload_n 0, 21, 0, 0), (21, .getfield 21, 24, 0, 0), (24, .iload_n 2, 25, 0, 0), (25, .invokestatic 86, 28, 0, 0), (28, .aload_n 0, 29, 0, 0), (29, .iload_n 2, 30, 0, 0), (30, .invokevirtual 124, 33, 0, 0), (33, .if_icmp .gt 10, 36, 43, 0), (36, .iload_n 1, 37, 0, 0), (37, .iload_n 2, 38, 0, 0), (38, .invokestatic 97, 41, 0, 0), (41, .ior, 42, 0, 0), (42, .istore_n 1, 43, 0, 0), (43, .iinc 2 1, 46, 0, 1), (46, .goto (-42), 49, 4, 0), (49, .iload_n 1, 50, 0, 0), (50, .ireturn, 51, 0, 0)]])
def m_X5_kerbAt : aM := (yX5_kerbAt, cX5_kerbAt, 5, (Option.some Jvm.ClassFile.FieldType.int), [], [[(0, .aload_n 0, 1, 0, 0), (1, .iload_n 1, 2, 0, 0), (2, .invokevirtual 113, 5, 0, 0), (5, .istore_n 3, 6, 0, 0), (6, .iload_n 3, 7, 0, 0), (7, .iconst (-1), 8, 0, (-1)), (8, .if_icmp .eq 11, 11, 19, 0), (11, .aload_n 0, 12, 0, 0), (12, .getfield 40, 15, 0, 0), (15, .iconst 1, 16, 0, 1), (16, .if_icmp .ge 5, 19, 21, 0), (19, .iconst (-1), 20, 0, (-1)), (20, .ireturn, 21, 0, 0), (21, .iload_n 2, 22, 0, 0), (22, .aload_n 0, 23, 0, 0), (23, .getfield 40, 26, 0, 0), (26, .idiv, 27, 0, 0), (27, .iload_n 3, 28, 0, 0), (28, .isub, 29, 0, 0), (29, .istore 4, 31, 0, 0), (31, .iload 4, 33, 0, 0), (33, .ifCond .ge 7, 36, 40, 0), (36, .iconst (-1), 37, 0, (-1)), (37, .goto 10, 40, 47, 0), (40, .iload 4, 42, 0, 0), (42, .bipush 16, 44, 0, 16), (44, .invokestatic 127, 47, 0, 0), (47, .ireturn, 48, 0, 0)]])
def m_X5_finish : aM := (yX5_finish, cX5_finish, 2, (Option.none : Option Jvm.ClassFile.FieldType), [], [[(0, .aload_n 0, 1, 0, 0), (1, .getfield 21, 4, 0, 0), (4, .iload_n 1, 5, 0, 0), (5, .iconst 0, 6, 0, 0), (6, .invokestatic 82, 9, 0, 0), (9, .aload_n 0, 10, 0, 0), (10, .getfield 33, 13, 0, 0), (13, .iload_n 1, 14, 0, 0), (14, .iconst 1, 15, 0, 1), (15, .invokestatic 82, 18, 0, 0), (18, .return_, 19, 0, 0)]])
def m_X5_growOlder : aM := (yX5_growOlder, cX5_growOlder, 2, (Option.none : Option Jvm.ClassFile.FieldType), [], [[(0, .aload_n 0, 1, 0, 0), (1, .getfield 24, 4, 0, 0), (4, .iload_n 1, 5, 0, 0), (5, .bipush 99, 7, 0, 99), (7, .aload_n 0, 8, 0, 0), (8, .getfield 24, 11, 0, 0), (11, .iload_n 1, 12, 0, 0), (12, .invokestatic 86, 15, 0, 0), (15, .iconst 1, 16, 0, 1), (16, .iadd, 17, 0, 0), (17, .invokestatic 127, 20, 0, 0), (20, .invokestatic 82, 23, 0, 0), (23, .return_, 24, 0, 0)]])
def m_X5_passDay : aM := (yX5_passDay, cX5_passDay, 6, (Option.none : Option Jvm.ClassFile.FieldType), [], [[(0, .iconst 0, 1, 0, 0), (1, .istore_n 3, 2, 0, 0), (2, .iconst 0, 3, 0, 0), (3, .istore 4, 5, 0, 0), (5, .iload 4, 7, 0, 0), (7, .aload_n 0, 8, 0, 0), (8, .getfield 56, 11, 0, 0), (11, .if_icmp .ge 49, 14, 60, 0), (14, .iload_n 2, 15, 0, 0), (15, .ifCond .eq 21, 18, 36, 0), (18, .aload_n 0, 19, 0, 0), (19, .invokevirtual 133, 22, 0, 0), (22, .bipush 100, 24, 0, 100), (24, .irem, 25, 0, 0), (25, .aload_n 0, 26, 0, 0), (26, .getfield 69, 29, 0, 0), (29, .if_icmp .ge 7, 32, 36, 0), (32, .iconst 1, 33, 0, 1), (33, .goto 4, 36, 37, 0), (36, .iconst 0, 37, 0, 0), (37, .istore 5, 39, 0, 0), (39, .iload 5, 41, 0, 0), (41, .ifCond .ne 13, 44, 54, 0), (44, .iload_n 3, 45, 0, 0), (45, .aload_n 0, 46, 0, 0), (46, .iload 4, 48, 0, 0), (48, .iload_n 3, 49, 0, 0), (49, .invokevirtual 137, 52, 0, 0), (52, .ior, 53, 0, 0), (53, .istore_n 3, 54, 0, 0), (54, .iinc 4 1, 57, 0, 1), (57, .goto (-52), 60, 5, 0), (60, .aload_n 0, 61, 0, 0), (61, .dup, 62, 0, 0), (62, .getfield 36, 65, 0, 0)],
  [(65, .iconst 1, 66, 0, 1), (66, .iadd, 67, 0, 0), (67, .putfield 36, 70, 0, 0), (70, .aload_n 0, 71, 0, 0), (71, .getfield 36, 74, 0, 0), (74, .bipush 30, 76, 0, 30), (76, .if_icmp .le 29, 79, 105, 0), (79, .aload_n 0, 80, 0, 0), (80, .iconst 1, 81, 0, 1), (81, .putfield 36, 84, 0, 0), (84, .aload_n 0, 85, 0, 0), (85, .sipush 9999, 88, 0, 9999), (88, .aload_n 0, 89, 0, 0), (89, .getfield 66, 92, 0, 0), (92, .iconst 1, 93, 0, 1), (93, .iadd, 94, 0, 0), (94, .invokestatic 127, 97, 0, 0), (97, .putfield 66, 100, 0, 0), (100, .aload_n 0, 101, 0, 0), (101, .aload_n 1, 102, 0, 0), (102, .invokevirtual 140, 105, 0, 0), (105, .return_, 106, 0, 0)]])
def m_X5_daysTillDone : aM := (yX5_daysTillDone, cX5_daysTillDone, 4, (Option.some Jvm.ClassFile.FieldType.int), [], [[(0, .iconst 0, 1, 0, 0), (1, .istore_n 3, 2, 0, 0), (2, .iload_n 3, 3, 0, 0), (3, .bipush 90, 5, 0, 90), (5, .if_icmp .gt 29, 8, 34, 0), (8, .aload_n 0, 9, 0, 0), (9, .getfield 33, 12, 0, 0), (12, .iload_n 2, 13, 0, 0), (13, .invokestatic 86, 16, 0, 0), (16, .iconst 1, 17, 0, 1), (17, .if_icmp .ne 5, 20, 22, 0), (20, .iload_n 3, 21, 0, 0), (21, .ireturn, 22, 0, 0), (22, .aload_n 0, 23, 0, 0), (23, .aload_n 1, 24, 0, 0), (24, .iconst 0, 25, 0, 0), (25, .invokevirtual 144, 28, 0, 0), (28, .iinc 3 1, 31, 0, 1), (31, .goto (-29), 34, 2, 0), (34, .iconst (-1), 35, 0, (-1)), (35, .ireturn, 36, 0, 0)]])
def m_X5_daysTillNoneWaits : aM := (yX5_daysTillNoneWaits, cX5_daysTillNoneWaits, 3, (Option.some Jvm.ClassFile.FieldType.int), [], [[(0, .iconst 0, 1, 0, 0), (1, .istore_n 2, 2, 0, 0), (2, .iload_n 2, 3, 0, 0), (3, .bipush 90, 5, 0, 90), (5, .if_icmp .gt 25, 8, 30, 0), (8, .aload_n 0, 9, 0, 0), (9, .iconst 0, 10, 0, 0), (10, .invokevirtual 104, 13, 0, 0), (13, .ifCond .ne 5, 16, 18, 0), (16, .iload_n 2, 17, 0, 0), (17, .ireturn, 18, 0, 0), (18, .aload_n 0, 19, 0, 0), (19, .aload_n 1, 20, 0, 0), (20, .iconst 0, 21, 0, 0), (21, .invokevirtual 144, 24, 0, 0), (24, .iinc 2 1, 27, 0, 1), (27, .goto (-25), 30, 2, 0), (30, .sipush 1000, 33, 0, 1000), (33, .ireturn, 34, 0, 0)]])
def m_X5_draw : aM := (yX5_draw, cX5_draw, 1, (Option.some Jvm.ClassFile.FieldType.int), [], [[(0, .aload_n 0, 1, 0, 0), (1, .aload_n 0, 2, 0, 0), (2, .getfield 46, 5, 0, 0), (5, .ldc 148, 7, 0, 0), (7, .imul, 8, 0, 0), (8, .sipush 12345, 11, 0, 12345), (11, .iadd, 12, 0, 0), (12, .putfield 46, 15, 0, 0), (15, .aload_n 0, 16, 0, 0), (16, .getfield 46, 19, 0, 0), (19, .bipush 16, 21, 0, 16), (21, .iushr, 22, 0, 0), (22, .sipush 32767, 25, 0, 32767), (25, .iand, 26, 0, 0), (26, .ireturn, 27, 0, 0)]])
def m_X5_work : aM := (yX5_work, cX5_work, 7, (Option.some Jvm.ClassFile.FieldType.int), [], [[(0, .iconst 0, 1, 0, 0), (1, .istore_n 3, 2, 0, 0), (2, .aload_n 0, 3, 0, 0), (3, .getfield 15, 6, 0, 0), (6, .iload_n 1, 7, 0, 0), (7, .invokestatic 86, 10, 0, 0), (10, .istore 4, 12, 0, 0), (12, .iconst 0, 13, 0, 0), (13, .istore 5, 15, 0, 0), (15, .iload 5, 17, 0, 0), (17, .aload_n 0, 18, 0, 0), (18, .getfield 63, 21, 0, 0), (21, .if_icmp .ge 129, 24, 150, 0), (24, .iload 4, 26, 0, 0), (26, .ifCond .le 124, 29, 150, 0), (29, .aload_n 0, 30, 0, 0), (30, .getfield 18, 33, 0, 0), (33, .iload 5, 35, 0, 0), (35, .invokestatic 86, 38, 0, 0), (38, .iload_n 1, 39, 0, 0), (39, .if_icmp .ne 105, 42, 144, 0), (42, .aload_n 0, 43, 0, 0), (43, .iload 5, 45, 0, 0), (45, .invokevirtual 101, 48, 0, 0), (48, .ifCond .eq 96, 51, 144, 0), (51, .iload_n 2, 52, 0, 0), (52, .aload_n 0, 53, 0, 0), (53, .getfield 27, 56, 0, 0), (56, .iload 5, 58, 0, 0), (58, .invokestatic 86, 61, 0, 0), (61, .invokestatic 149, 64, 0, 0)],
  [(64, .ifCond .ne 80, 67, 144, 0), (67, .iload 4, 69, 0, 0), (69, .aload_n 0, 70, 0, 0), (70, .getfield 21, 73, 0, 0), (73, .iload 5, 75, 0, 0), (75, .invokestatic 86, 78, 0, 0), (78, .invokestatic 127, 81, 0, 0), (81, .istore 6, 83, 0, 0), (83, .iload 4, 85, 0, 0), (85, .iload 6, 87, 0, 0), (87, .isub, 88, 0, 0), (88, .istore 4, 90, 0, 0), (90, .iload_n 3, 91, 0, 0), (91, .aload_n 0, 92, 0, 0), (92, .getfield 27, 95, 0, 0), (95, .iload 5, 97, 0, 0), (97, .invokestatic 86, 100, 0, 0), (100, .invokestatic 97, 103, 0, 0), (103, .ior, 104, 0, 0), (104, .istore_n 3, 105, 0, 0), (105, .aload_n 0, 106, 0, 0), (106, .getfield 21, 109, 0, 0), (109, .iload 5, 111, 0, 0), (111, .aload_n 0, 112, 0, 0), (112, .getfield 21, 115, 0, 0), (115, .iload 5, 117, 0, 0), (117, .invokestatic 86, 120, 0, 0), (120, .iload 6, 122, 0, 0), (122, .isub, 123, 0, 0), (123, .invokestatic 82, 126, 0, 0), (126, .aload_n 0, 127, 0, 0), (127, .getfield 21, 130, 0, 0)],
  [(130, .iload 5, 132, 0, 0), (132, .invokestatic 86, 135, 0, 0), (135, .ifCond .ne 9, 138, 144, 0), (138, .aload_n 0, 139, 0, 0), (139, .iload 5, 141, 0, 0), (141, .invokevirtual 153, 144, 0, 0), (144, .iinc 5 1, 147, 0, 1), (147, .goto (-132), 150, 15, 0), (150, .iload_n 3, 151, 0, 0), (151, .ireturn, 152, 0, 0)]])
def m_X5_passMonth : aM := (yX5_passMonth, cX5_passMonth, 4, (Option.none : Option Jvm.ClassFile.FieldType), [], [[(0, .iconst 0, 1, 0, 0), (1, .istore_n 2, 2, 0, 0), (2, .iload_n 2, 3, 0, 0), (3, .aload_n 0, 4, 0, 0), (4, .getfield 63, 7, 0, 0), (7, .if_icmp .ge 64, 10, 71, 0), (10, .aload_n 0, 11, 0, 0), (11, .iload_n 2, 12, 0, 0), (12, .invokevirtual 90, 15, 0, 0), (15, .ifCond .eq 33, 18, 48, 0), (18, .aload_n 0, 19, 0, 0), (19, .getfield 21, 22, 0, 0), (22, .iload_n 2, 23, 0, 0), (23, .invokestatic 86, 26, 0, 0), (26, .aload_n 1, 27, 0, 0), (27, .aload_n 0, 28, 0, 0), (28, .iload_n 2, 29, 0, 0), (29, .invokevirtual 157, 32, 0, 0), (32, .iadd, 33, 0, 0), (33, .istore_n 3, 34, 0, 0), (34, .aload_n 0, 35, 0, 0), (35, .getfield 21, 38, 0, 0), (38, .iload_n 2, 39, 0, 0), (39, .bipush 99, 41, 0, 99), (41, .iload_n 3, 42, 0, 0), (42, .invokestatic 127, 45, 0, 0), (45, .invokestatic 82, 48, 0, 0), (48, .aload_n 0, 49, 0, 0), (49, .getfield 33, 52, 0, 0), (52, .iload_n 2, 53, 0, 0), (53, .invokestatic 86, 56, 0, 0), (56, .iconst 1, 57, 0, 1), (57, .if_icmp .eq 8, 60, 65, 0), (60, .aload_n 0, 61, 0, 0), (61, .iload_n 2, 62, 0, 0), (62, .invokevirtual 163, 65, 0, 0)],
  [(65, .iinc 2 1, 68, 0, 1), (68, .goto (-66), 71, 2, 0), (71, .return_, 72, 0, 0)]])
def m_X6_init : aM := (yX6_init, cX6_init, 1, (Option.none : Option Jvm.ClassFile.FieldType), [], [[(0, .aload_n 0, 1, 0, 0), (1, .bipush 14, 3, 0, 14), (3, .invokespecial 5, 6, 0, 0), (6, .aload_n 0, 7, 0, 0), (7, .new 11, 10, 0, 0), (10, .dup, 11, 0, 0), (11, .invokespecial 13, 14, 0, 0), (14, .putfield 16, 17, 0, 0), (17, .return_, 18, 0, 0)]])
def m_X6_readLine : aM := (yX6_readLine, cX6_readLine, 1, (Option.some Jvm.ClassFile.FieldType.boolean), [], [[(0, .aload_n 0, 1, 0, 0), (1, .getfield 20, 4, 0, 0), (4, .getfield 24, 7, 0, 0), (7, .getstatic 30, 10, 0, 0), (10, .if_acmp .ne 28, 13, 38, 0), (13, .aload_n 0, 14, 0, 0), (14, .getfield 16, 17, 0, 0), (17, .getfield 35, 20, 0, 0), (20, .bipush 6, 22, 0, 6), (22, .if_icmp .ge 14, 25, 36, 0), (25, .aload_n 0, 26, 0, 0), (26, .invokevirtual 39, 29, 0, 0), (29, .ifCond .eq 7, 32, 36, 0), (32, .iconst 1, 33, 0, 1), (33, .goto 4, 36, 37, 0), (36, .iconst 0, 37, 0, 0), (37, .ireturn, 38, 0, 0), (38, .aload_n 0, 39, 0, 0), (39, .getfield 20, 42, 0, 0), (42, .getfield 24, 45, 0, 0), (45, .getstatic 43, 48, 0, 0), (48, .if_acmp .ne 28, 51, 76, 0), (51, .aload_n 0, 52, 0, 0), (52, .getfield 16, 55, 0, 0), (55, .getfield 46, 58, 0, 0), (58, .bipush 12, 60, 0, 12), (60, .if_icmp .ge 14, 63, 74, 0), (63, .aload_n 0, 64, 0, 0)],
  [(64, .invokevirtual 49, 67, 0, 0), (67, .ifCond .eq 7, 70, 74, 0), (70, .iconst 1, 71, 0, 1), (71, .goto 4, 74, 75, 0), (74, .iconst 0, 75, 0, 0), (75, .ireturn, 76, 0, 0), (76, .aload_n 0, 77, 0, 0), (77, .getfield 20, 80, 0, 0), (80, .getstatic 52, 83, 0, 0), (83, .invokevirtual 55, 86, 0, 0), (86, .ifCond .eq 8, 89, 94, 0), (89, .aload_n 0, 90, 0, 0), (90, .invokevirtual 59, 93, 0, 0), (93, .ireturn, 94, 0, 0), (94, .aload_n 0, 95, 0, 0), (95, .invokevirtual 62, 98, 0, 0), (98, .ireturn, 99, 0, 0)]])
def m_X6_readPerson : aM := (yX6_readPerson, cX6_readPerson, 3, (Option.some Jvm.ClassFile.FieldType.boolean), [], [[(0, .aload_n 0, 1, 0, 0), (1, .getfield 20, 4, 0, 0), (4, .invokevirtual 65, 7, 0, 0), (7, .aload_n 0, 8, 0, 0), (8, .getstatic 68, 11, 0, 0), (11, .iconst 0, 12, 0, 0), (12, .bipush 15, 14, 0, 15), (14, .invokevirtual 71, 17, 0, 0), (17, .istore_n 1, 18, 0, 0), (18, .iload_n 1, 19, 0, 0), (19, .iconst (-1), 20, 0, (-1)), (20, .if_icmp .ne 5, 23, 25, 0), (23, .iconst 0, 24, 0, 0), (24, .ireturn, 25, 0, 0), (25, .aload_n 0, 26, 0, 0), (26, .getstatic 75, 29, 0, 0), (29, .iconst 0, 30, 0, 0), (30, .bipush 9, 32, 0, 9), (32, .invokevirtual 71, 35, 0, 0), (35, .istore_n 2, 36, 0, 0), (36, .iload_n 2, 37, 0, 0), (37, .iconst (-1), 38, 0, (-1)), (38, .if_icmp .ne 5, 41, 43, 0), (41, .iconst 0, 42, 0, 0), (42, .ireturn, 43, 0, 0), (43, .aload_n 0, 44, 0, 0), (44, .getfield 16, 47, 0, 0), (47, .iload_n 1, 48, 0, 0), (48, .iload_n 2, 49, 0, 0), (49, .invokevirtual 78, 52, 0, 0), (52, .iconst 1, 53, 0, 1), (53, .ireturn, 54, 0, 0)]])
def m_X6_readDuty : aM := (yX6_readDuty, cX6_readDuty, 6, (Option.some Jvm.ClassFile.FieldType.boolean), [], [[(0, .aload_n 0, 1, 0, 0), (1, .getfield 20, 4, 0, 0), (4, .invokevirtual 65, 7, 0, 0), (7, .aload_n 0, 8, 0, 0), (8, .getstatic 82, 11, 0, 0), (11, .iconst 0, 12, 0, 0), (12, .aload_n 0, 13, 0, 0), (13, .getfield 16, 16, 0, 0), (16, .getfield 35, 19, 0, 0), (19, .iconst 1, 20, 0, 1), (20, .isub, 21, 0, 0), (21, .invokevirtual 71, 24, 0, 0), (24, .istore_n 1, 25, 0, 0), (25, .iload_n 1, 26, 0, 0), (26, .iconst (-1), 27, 0, (-1)), (27, .if_icmp .ne 5, 30, 32, 0), (30, .iconst 0, 31, 0, 0), (31, .ireturn, 32, 0, 0), (32, .aload_n 0, 33, 0, 0), (33, .getstatic 85, 36, 0, 0), (36, .iconst 1, 37, 0, 1), (37, .bipush 99, 39, 0, 99), (39, .invokevirtual 71, 42, 0, 0), (42, .istore_n 2, 43, 0, 0), (43, .iload_n 2, 44, 0, 0), (44, .iconst (-1), 45, 0, (-1)), (45, .if_icmp .ne 5, 48, 50, 0), (48, .iconst 0, 49, 0, 0), (49, .ireturn, 50, 0, 0), (50, .iconst 0, 51, 0, 0), (51, .istore_n 3, 52, 0, 0), (52, .aload_n 0, 53, 0, 0), (53, .getfield 20, 56, 0, 0), (56, .getfield 24, 59, 0, 0), (59, .getstatic 88, 62, 0, 0), (62, .if_acmp .ne 21, 65, 83, 0)],
  [(65, .aload_n 0, 66, 0, 0), (66, .getstatic 88, 69, 0, 0), (69, .iconst 0, 70, 0, 0), (70, .bipush 99, 72, 0, 99), (72, .invokevirtual 71, 75, 0, 0), (75, .istore_n 3, 76, 0, 0), (76, .iload_n 3, 77, 0, 0), (77, .iconst (-1), 78, 0, (-1)), (78, .if_icmp .ne 5, 81, 83, 0), (81, .iconst 0, 82, 0, 0), (82, .ireturn, 83, 0, 0), (83, .iconst (-1), 84, 0, (-1)), (84, .istore 4, 86, 0, 0), (86, .aload_n 0, 87, 0, 0), (87, .getfield 20, 90, 0, 0), (90, .getfield 24, 93, 0, 0), (93, .getstatic 91, 96, 0, 0), (96, .if_acmp .ne 22, 99, 118, 0), (99, .aload_n 0, 100, 0, 0), (100, .getstatic 91, 103, 0, 0), (103, .iconst 0, 104, 0, 0), (104, .iconst 5, 105, 0, 5), (105, .invokevirtual 71, 108, 0, 0), (108, .istore 4, 110, 0, 0), (110, .iload 4, 112, 0, 0), (112, .iconst (-1), 113, 0, (-1)), (113, .if_icmp .ne 5, 116, 118, 0), (116, .iconst 0, 117, 0, 0), (117, .ireturn, 118, 0, 0), (118, .iconst (-1), 119, 0, (-1)), (119, .istore 5, 121, 0, 0), (121, .aload_n 0, 122, 0, 0), (122, .getfield 20, 125, 0, 0), (125, .getfield 24, 128, 0, 0)],
  [(128, .getstatic 94, 131, 0, 0), (131, .if_acmp .ne 30, 134, 161, 0), (134, .aload_n 0, 135, 0, 0), (135, .getstatic 94, 138, 0, 0), (138, .iconst 0, 139, 0, 0), (139, .aload_n 0, 140, 0, 0), (140, .getfield 16, 143, 0, 0), (143, .getfield 46, 146, 0, 0), (146, .iconst 1, 147, 0, 1), (147, .isub, 148, 0, 0), (148, .invokevirtual 71, 151, 0, 0), (151, .istore 5, 153, 0, 0), (153, .iload 5, 155, 0, 0), (155, .iconst (-1), 156, 0, (-1)), (156, .if_icmp .ne 5, 159, 161, 0), (159, .iconst 0, 160, 0, 0), (160, .ireturn, 161, 0, 0), (161, .aload_n 0, 162, 0, 0), (162, .getfield 16, 165, 0, 0), (165, .iload_n 1, 166, 0, 0), (166, .iload_n 2, 167, 0, 0), (167, .iload_n 3, 168, 0, 0), (168, .iload 4, 170, 0, 0), (170, .iload 5, 172, 0, 0), (172, .invokevirtual 97, 175, 0, 0), (175, .iconst 1, 176, 0, 1), (176, .ireturn, 177, 0, 0)]])
def m_X6_readForgotten : aM := (yX6_readForgotten, cX6_readForgotten, 1, (Option.some Jvm.ClassFile.FieldType.boolean), [], [[(0, .aload_n 0, 1, 0, 0), (1, .getfield 20, 4, 0, 0), (4, .getfield 101, 7, 0, 0), (7, .iconst 2, 8, 0, 2), (8, .if_icmp .ne 20, 11, 28, 0), (11, .aload_n 0, 12, 0, 0), (12, .getfield 16, 15, 0, 0), (15, .aload_n 0, 16, 0, 0), (16, .getfield 20, 19, 0, 0), (19, .getfield 104, 22, 0, 0), (22, .invokevirtual 107, 25, 0, 0), (25, .ifCond .ne 5, 28, 30, 0), (28, .iconst 0, 29, 0, 0), (29, .ireturn, 30, 0, 0), (30, .aload_n 0, 31, 0, 0), (31, .getfield 16, 34, 0, 0), (34, .getfield 111, 37, 0, 0), (37, .aload_n 0, 38, 0, 0), (38, .getfield 20, 41, 0, 0), (41, .getfield 104, 44, 0, 0), (44, .iconst 2, 45, 0, 2), (45, .invokestatic 115, 48, 0, 0), (48, .aload_n 0, 49, 0, 0), (49, .getfield 20, 52, 0, 0), (52, .invokevirtual 65, 55, 0, 0), (55, .iconst 1, 56, 0, 1), (56, .ireturn, 57, 0, 0)]])
def m_X6_readSetting : aM := (yX6_readSetting, cX6_readSetting, 1, (Option.some Jvm.ClassFile.FieldType.boolean), [], [[(0, .aload_n 0, 1, 0, 0), (1, .getfield 20, 4, 0, 0), (4, .getfield 24, 7, 0, 0), (7, .getstatic 119, 10, 0, 0), (10, .if_acmp .ne 37, 13, 47, 0), (13, .aload_n 0, 14, 0, 0), (14, .getfield 16, 17, 0, 0), (17, .aload_n 0, 18, 0, 0), (18, .getstatic 119, 21, 0, 0), (21, .iconst 0, 22, 0, 0), (22, .bipush 100, 24, 0, 100), (24, .invokevirtual 71, 27, 0, 0), (27, .putfield 122, 30, 0, 0), (30, .aload_n 0, 31, 0, 0), (31, .getfield 16, 34, 0, 0), (34, .getfield 122, 37, 0, 0), (37, .iconst (-1), 38, 0, (-1)), (38, .if_icmp .eq 7, 41, 45, 0), (41, .iconst 1, 42, 0, 1), (42, .goto 4, 45, 46, 0), (45, .iconst 0, 46, 0, 0), (46, .ireturn, 47, 0, 0), (47, .aload_n 0, 48, 0, 0), (48, .getfield 20, 51, 0, 0), (51, .getfield 24, 54, 0, 0), (54, .getstatic 125, 57, 0, 0), (57, .if_acmp .ne 37, 60, 94, 0), (60, .aload_n 0, 61, 0, 0), (61, .getfield 16, 64, 0, 0)],
  [(64, .aload_n 0, 65, 0, 0), (65, .getstatic 125, 68, 0, 0), (68, .iconst 1, 69, 0, 1), (69, .bipush 9, 71, 0, 9), (71, .invokevirtual 71, 74, 0, 0), (74, .putfield 128, 77, 0, 0), (77, .aload_n 0, 78, 0, 0), (78, .getfield 16, 81, 0, 0), (81, .getfield 128, 84, 0, 0), (84, .iconst (-1), 85, 0, (-1)), (85, .if_icmp .eq 7, 88, 92, 0), (88, .iconst 1, 89, 0, 1), (89, .goto 4, 92, 93, 0), (92, .iconst 0, 93, 0, 0), (93, .ireturn, 94, 0, 0), (94, .aload_n 0, 95, 0, 0), (95, .getfield 20, 98, 0, 0), (98, .getfield 24, 101, 0, 0), (101, .getstatic 131, 104, 0, 0), (104, .if_acmp .ne 37, 107, 141, 0), (107, .aload_n 0, 108, 0, 0), (108, .getfield 16, 111, 0, 0), (111, .aload_n 0, 112, 0, 0), (112, .getstatic 131, 115, 0, 0), (115, .iconst 0, 116, 0, 0), (116, .bipush 50, 118, 0, 50), (118, .invokevirtual 71, 121, 0, 0), (121, .putfield 134, 124, 0, 0), (124, .aload_n 0, 125, 0, 0), (125, .getfield 16, 128, 0, 0)],
  [(128, .getfield 134, 131, 0, 0), (131, .iconst (-1), 132, 0, (-1)), (132, .if_icmp .eq 7, 135, 139, 0), (135, .iconst 1, 136, 0, 1), (136, .goto 4, 139, 140, 0), (139, .iconst 0, 140, 0, 0), (140, .ireturn, 141, 0, 0), (141, .aload_n 0, 142, 0, 0), (142, .getfield 20, 145, 0, 0), (145, .getfield 24, 148, 0, 0), (148, .getstatic 137, 151, 0, 0), (151, .if_acmp .ne 37, 154, 188, 0), (154, .aload_n 0, 155, 0, 0), (155, .getfield 16, 158, 0, 0), (158, .aload_n 0, 159, 0, 0), (159, .getstatic 137, 162, 0, 0), (162, .iconst 1, 163, 0, 1), (163, .bipush 30, 165, 0, 30), (165, .invokevirtual 71, 168, 0, 0), (168, .putfield 140, 171, 0, 0), (171, .aload_n 0, 172, 0, 0), (172, .getfield 16, 175, 0, 0), (175, .getfield 140, 178, 0, 0), (178, .iconst (-1), 179, 0, (-1)), (179, .if_icmp .eq 7, 182, 186, 0), (182, .iconst 1, 183, 0, 1), (183, .goto 4, 186, 187, 0), (186, .iconst 0, 187, 0, 0), (187, .ireturn, 188, 0, 0), (188, .aload_n 0, 189, 0, 0), (189, .getfield 16, 192, 0, 0)],
  [(192, .aload_n 0, 193, 0, 0), (193, .getstatic 143, 196, 0, 0), (196, .iconst 0, 197, 0, 0), (197, .sipush 999, 200, 0, 999), (200, .invokevirtual 71, 203, 0, 0), (203, .putfield 146, 206, 0, 0), (206, .aload_n 0, 207, 0, 0), (207, .getfield 16, 210, 0, 0), (210, .getfield 146, 213, 0, 0), (213, .iconst (-1), 214, 0, (-1)), (214, .if_icmp .eq 7, 217, 221, 0), (217, .iconst 1, 218, 0, 1), (218, .goto 4, 221, 222, 0), (221, .iconst 0, 222, 0, 0), (222, .ireturn, 223, 0, 0)]])
def m_X6_readNumberOf : aM := (yX6_readNumberOf, cX6_readNumberOf, 4, (Option.some Jvm.ClassFile.FieldType.int), [], [[(0, .aload_n 0, 1, 0, 0), (1, .getfield 20, 4, 0, 0), (4, .aload_n 1, 5, 0, 0), (5, .invokevirtual 55, 8, 0, 0), (8, .ifCond .eq 15, 11, 23, 0), (11, .aload_n 0, 12, 0, 0), (12, .getfield 20, 15, 0, 0), (15, .iload_n 2, 16, 0, 0), (16, .iload_n 3, 17, 0, 0), (17, .invokevirtual 149, 20, 0, 0), (20, .goto 4, 23, 24, 0), (23, .iconst (-1), 24, 0, (-1)), (24, .ireturn, 25, 0, 0)]])
def m_X7_init : aM := (yX7_init, cX7_init, 1, (Option.none : Option Jvm.ClassFile.FieldType), [], [[(0, .aload_n 0, 1, 0, 0), (1, .invokespecial 3, 4, 0, 0), (4, .aload_n 0, 5, 0, 0), (5, .sipush 400, 8, 0, 400), (8, .newarray .byte, 10, 0, 0), (10, .putfield 9, 13, 0, 0), (13, .return_, 14, 0, 0)]])
def m_X7_append : aM := (yX7_append, cX7_append, 3, (Option.none : Option Jvm.ClassFile.FieldType), [], [[(0, .bipush 24, 2, 0, 24), (2, .istore_n 2, 3, 0, 0), (3, .iload_n 2, 4, 0, 0), (4, .ifCond .lt 51, 7, 55, 0), (7, .aload_n 0, 8, 0, 0), (8, .getfield 15, 11, 0, 0), (11, .ifCond .lt 38, 14, 49, 0), (14, .aload_n 0, 15, 0, 0), (15, .getfield 15, 18, 0, 0), (18, .aload_n 0, 19, 0, 0), (19, .getfield 9, 22, 0, 0), (22, .arraylength, 23, 0, 0), (23, .if_icmp .ge 26, 26, 49, 0), (26, .aload_n 0, 27, 0, 0), (27, .getfield 9, 30, 0, 0), (30, .aload_n 0, 31, 0, 0), (31, .getfield 15, 34, 0, 0), (34, .iload_n 1, 35, 0, 0), (35, .iload_n 2, 36, 0, 0), (36, .ishr, 37, 0, 0), (37, .i2b, 38, 0, 0), (38, .bastore, 39, 0, 0), (39, .aload_n 0, 40, 0, 0), (40, .dup, 41, 0, 0), (41, .getfield 15, 44, 0, 0), (44, .iconst 1, 45, 0, 1), (45, .iadd, 46, 0, 0), (46, .putfield 15, 49, 0, 0), (49, .iinc 2 (-8), 52, 0, (-8)), (52, .goto (-49), 55, 3, 0), (55, .return_, 56, 0, 0)]])
def m_X7_byteAt : aM := (yX7_byteAt, cX7_byteAt, 2, (Option.some Jvm.ClassFile.FieldType.int), [], [[(0, .iload_n 1, 1, 0, 0), (1, .ifCond .lt 33, 4, 34, 0), (4, .iload_n 1, 5, 0, 0), (5, .aload_n 0, 6, 0, 0), (6, .getfield 15, 9, 0, 0), (9, .if_icmp .ge 25, 12, 34, 0), (12, .iload_n 1, 13, 0, 0), (13, .aload_n 0, 14, 0, 0), (14, .getfield 9, 17, 0, 0), (17, .arraylength, 18, 0, 0), (18, .if_icmp .ge 16, 21, 34, 0), (21, .aload_n 0, 22, 0, 0), (22, .getfield 9, 25, 0, 0), (25, .iload_n 1, 26, 0, 0), (26, .baload, 27, 0, 0), (27, .sipush 255, 30, 0, 255), (30, .iand, 31, 0, 0), (31, .goto 4, 34, 35, 0), (34, .iconst (-1), 35, 0, (-1)), (35, .ireturn, 36, 0, 0)]])
def m_X8_init : aM := (yX8_init, cX8_init, 2, (Option.none : Option Jvm.ClassFile.FieldType), [], [[(0, .aload_n 0, 1, 0, 0), (1, .invokespecial 3, 4, 0, 0), (4, .aload_n 0, 5, 0, 0), (5, .new 9, 8, 0, 0), (8, .dup, 9, 0, 0), (9, .invokespecial 11, 12, 0, 0), (12, .putfield 12, 15, 0, 0), (15, .aload_n 0, 16, 0, 0), (16, .iload_n 1, 17, 0, 0), (17, .putfield 18, 20, 0, 0), (20, .return_, 21, 0, 0)]])
def m_X8_readLines : aM := (yX8_readLines, cX8_readLines, 3, (Option.some Jvm.ClassFile.FieldType.int), [], [[(0, .aload_n 0, 1, 0, 0), (1, .getfield 12, 4, 0, 0), (4, .aload_n 1, 5, 0, 0), (5, .invokevirtual 22, 8, 0, 0), (8, .aload_n 0, 9, 0, 0), (9, .getfield 12, 12, 0, 0), (12, .invokevirtual 26, 15, 0, 0), (15, .ifCond .eq 5, 18, 20, 0), (18, .iconst (-1), 19, 0, (-1)), (19, .ireturn, 20, 0, 0), (20, .iconst 0, 21, 0, 0), (21, .istore_n 2, 22, 0, 0), (22, .iload_n 2, 23, 0, 0), (23, .aload_n 0, 24, 0, 0), (24, .getfield 18, 27, 0, 0), (27, .if_icmp .ge 56, 30, 83, 0), (30, .aload_n 0, 31, 0, 0), (31, .invokevirtual 30, 34, 0, 0), (34, .ifCond .ne 11, 37, 45, 0), (37, .aload_n 0, 38, 0, 0), (38, .getfield 12, 41, 0, 0), (41, .getfield 33, 44, 0, 0), (44, .ireturn, 45, 0, 0), (45, .aload_n 0, 46, 0, 0), (46, .getfield 12, 49, 0, 0), (49, .invokevirtual 26, 52, 0, 0), (52, .ifCond .eq 5, 55, 57, 0), (55, .iconst (-1), 56, 0, (-1)), (56, .ireturn, 57, 0, 0), (57, .aload_n 0, 58, 0, 0), (58, .getfield 12, 61, 0, 0), (61, .bipush 59, 63, 0, 59), (63, .invokevirtual 36, 66, 0, 0)],
  [(66, .ifCond .ne 11, 69, 77, 0), (69, .aload_n 0, 70, 0, 0), (70, .getfield 12, 73, 0, 0), (73, .getfield 33, 76, 0, 0), (76, .ireturn, 77, 0, 0), (77, .iinc 2 1, 80, 0, 1), (80, .goto (-58), 83, 22, 0), (83, .aload_n 0, 84, 0, 0), (84, .getfield 12, 87, 0, 0), (87, .getfield 33, 90, 0, 0), (90, .ireturn, 91, 0, 0)]])
def m_X9_init : aM := (yX9_init, cX9_init, 1, (Option.none : Option Jvm.ClassFile.FieldType), [], [[(0, .aload_n 0, 1, 0, 0), (1, .invokespecial 3, 4, 0, 0), (4, .aload_n 0, 5, 0, 0), (5, .sipush 401, 8, 0, 401), (8, .newarray .int, 10, 0, 0), (10, .putfield 9, 13, 0, 0), (13, .aload_n 0, 14, 0, 0), (14, .sipush 401, 17, 0, 401), (17, .newarray .int, 19, 0, 0), (19, .putfield 15, 22, 0, 0), (22, .aload_n 0, 23, 0, 0), (23, .sipush 401, 26, 0, 401), (26, .newarray .int, 28, 0, 0), (28, .putfield 18, 31, 0, 0), (31, .aload_n 0, 32, 0, 0), (32, .sipush 401, 35, 0, 401), (35, .newarray .int, 37, 0, 0), (37, .putfield 21, 40, 0, 0), (40, .return_, 41, 0, 0)]])
def m_X9_scan : aM := (yX9_scan, cX9_scan, 5, (Option.none : Option Jvm.ClassFile.FieldType), [], [[(0, .aload_n 0, 1, 0, 0), (1, .iconst 0, 2, 0, 0), (2, .putfield 24, 5, 0, 0), (5, .iconst 4, 6, 0, 4), (6, .istore_n 2, 7, 0, 0), (7, .iconst 0, 8, 0, 0), (8, .istore_n 3, 9, 0, 0), (9, .iload_n 3, 10, 0, 0), (10, .aload_n 1, 11, 0, 0), (11, .getfield 28, 14, 0, 0), (14, .if_icmp .ge 69, 17, 83, 0), (17, .aload_n 1, 18, 0, 0), (18, .iload_n 3, 19, 0, 0), (19, .invokevirtual 33, 22, 0, 0), (22, .invokestatic 37, 25, 0, 0), (25, .istore 4, 27, 0, 0), (27, .iload 4, 29, 0, 0), (29, .iconst 3, 30, 0, 3), (30, .if_icmp .eq 15, 33, 45, 0), (33, .iload 4, 35, 0, 0), (35, .iconst 4, 36, 0, 4), (36, .if_icmp .eq 16, 39, 52, 0), (39, .iload 4, 41, 0, 0), (41, .iload_n 2, 42, 0, 0), (42, .if_icmp .eq 10, 45, 52, 0), (45, .aload_n 0, 46, 0, 0), (46, .iload 4, 48, 0, 0), (48, .iload_n 3, 49, 0, 0), (49, .invokevirtual 40, 52, 0, 0), (52, .iload 4, 54, 0, 0), (54, .iconst 4, 55, 0, 4), (55, .if_icmp .eq 19, 58, 74, 0), (58, .aload_n 0, 59, 0, 0), (59, .getfield 18, 62, 0, 0), (62, .aload_n 0, 63, 0, 0), (63, .getfield 24, 66, 0, 0)],
  [(66, .iconst 1, 67, 0, 1), (67, .isub, 68, 0, 0), (68, .iload_n 3, 69, 0, 0), (69, .iconst 1, 70, 0, 1), (70, .iadd, 71, 0, 0), (71, .invokestatic 44, 74, 0, 0), (74, .iload 4, 76, 0, 0), (76, .istore_n 2, 77, 0, 0), (77, .iinc 3 1, 80, 0, 1), (80, .goto (-71), 83, 9, 0), (83, .aload_n 0, 84, 0, 0), (84, .iconst 0, 85, 0, 0), (85, .aload_n 1, 86, 0, 0), (86, .getfield 28, 89, 0, 0), (89, .invokevirtual 40, 92, 0, 0), (92, .iconst 0, 93, 0, 0), (93, .istore_n 3, 94, 0, 0), (94, .iload_n 3, 95, 0, 0), (95, .aload_n 0, 96, 0, 0), (96, .getfield 24, 99, 0, 0), (99, .if_icmp .ge 23, 102, 122, 0), (102, .aload_n 0, 103, 0, 0), (103, .getfield 21, 106, 0, 0), (106, .iload_n 3, 107, 0, 0), (107, .aload_n 0, 108, 0, 0), (108, .aload_n 1, 109, 0, 0), (109, .iload_n 3, 110, 0, 0), (110, .invokevirtual 48, 113, 0, 0), (113, .invokestatic 44, 116, 0, 0), (116, .iinc 3 1, 119, 0, 1), (119, .goto (-25), 122, 94, 0), (122, .aload_n 0, 123, 0, 0), (123, .iconst (-1), 124, 0, (-1)), (124, .putfield 52, 127, 0, 0), (127, .aload_n 0, 128, 0, 0)],
  [(128, .invokevirtual 55, 131, 0, 0), (131, .return_, 132, 0, 0)]])
def m_X9_kindOf : aM := (yX9_kindOf, cX9_kindOf, 1, (Option.some Jvm.ClassFile.FieldType.int), [], [[(0, .iload_n 0, 1, 0, 0), (1, .bipush 32, 3, 0, 32), (3, .if_icmp .ne 5, 6, 8, 0), (6, .iconst 4, 7, 0, 4), (7, .ireturn, 8, 0, 0), (8, .iload_n 0, 9, 0, 0), (9, .bipush 97, 11, 0, 97), (11, .if_icmp .lt 11, 14, 22, 0), (14, .iload_n 0, 15, 0, 0), (15, .bipush 122, 17, 0, 122), (17, .if_icmp .gt 5, 20, 22, 0), (20, .iconst 1, 21, 0, 1), (21, .ireturn, 22, 0, 0), (22, .iload_n 0, 23, 0, 0), (23, .bipush 48, 25, 0, 48), (25, .if_icmp .lt 13, 28, 38, 0), (28, .iload_n 0, 29, 0, 0), (29, .bipush 57, 31, 0, 57), (31, .if_icmp .gt 7, 34, 38, 0), (34, .iconst 2, 35, 0, 2), (35, .goto 4, 38, 39, 0), (38, .iconst 3, 39, 0, 3), (39, .ireturn, 40, 0, 0)]])
def m_X9_open : aM := (yX9_open, cX9_open, 3, (Option.none : Option Jvm.ClassFile.FieldType), [], [[(0, .aload_n 0, 1, 0, 0), (1, .getfield 9, 4, 0, 0), (4, .aload_n 0, 5, 0, 0), (5, .getfield 24, 8, 0, 0), (8, .iload_n 1, 9, 0, 0), (9, .invokestatic 44, 12, 0, 0), (12, .aload_n 0, 13, 0, 0), (13, .getfield 15, 16, 0, 0), (16, .aload_n 0, 17, 0, 0), (17, .getfield 24, 20, 0, 0), (20, .iload_n 2, 21, 0, 0), (21, .invokestatic 44, 24, 0, 0), (24, .aload_n 0, 25, 0, 0), (25, .getfield 18, 28, 0, 0), (28, .aload_n 0, 29, 0, 0), (29, .getfield 24, 32, 0, 0), (32, .iload_n 2, 33, 0, 0), (33, .invokestatic 44, 36, 0, 0), (36, .aload_n 0, 37, 0, 0), (37, .dup, 38, 0, 0), (38, .getfield 24, 41, 0, 0), (41, .iconst 1, 42, 0, 1), (42, .iadd, 43, 0, 0), (43, .putfield 24, 46, 0, 0), (46, .return_, 47, 0, 0)]])
def m_X9_valueOf : aM := (yX9_valueOf, cX9_valueOf, 3, (Option.some Jvm.ClassFile.FieldType.int), [], [[(0, .aload_n 0, 1, 0, 0), (1, .getfield 9, 4, 0, 0), (4, .iload_n 2, 5, 0, 0), (5, .invokestatic 58, 8, 0, 0), (8, .lookupswitch 42 #[(1, 28), (2, 35)], 36, 0, 0), (36, .aload_n 0, 37, 0, 0), (37, .aload_n 1, 38, 0, 0), (38, .iload_n 2, 39, 0, 0), (39, .invokevirtual 62, 42, 0, 0), (42, .ireturn, 43, 0, 0), (43, .aload_n 0, 44, 0, 0), (44, .aload_n 1, 45, 0, 0), (45, .iload_n 2, 46, 0, 0), (46, .invokevirtual 65, 49, 0, 0), (49, .ireturn, 50, 0, 0), (50, .aload_n 1, 51, 0, 0), (51, .aload_n 0, 52, 0, 0), (52, .getfield 15, 55, 0, 0), (55, .iload_n 2, 56, 0, 0), (56, .invokestatic 58, 59, 0, 0), (59, .invokevirtual 33, 62, 0, 0), (62, .ireturn, 63, 0, 0)]])
def m_X9_wordOf : aM := (yX9_wordOf, cX9_wordOf, 5, (Option.some Jvm.ClassFile.FieldType.int), [], [[(0, .iconst 0, 1, 0, 0), (1, .istore_n 3, 2, 0, 0), (2, .iload_n 3, 3, 0, 0), (3, .getstatic 68, 6, 0, 0), (6, .arraylength, 7, 0, 0), (7, .if_icmp .ge 37, 10, 44, 0), (10, .getstatic 68, 13, 0, 0), (13, .iload_n 3, 14, 0, 0), (14, .aaload, 15, 0, 0), (15, .astore 4, 17, 0, 0), (17, .aload 4, 19, 0, 0), (19, .ifnull 19, 22, 38, 0), (22, .aload_n 0, 23, 0, 0), (23, .aload_n 1, 24, 0, 0), (24, .iload_n 2, 25, 0, 0), (25, .aload 4, 27, 0, 0), (27, .getfield 72, 30, 0, 0), (30, .invokevirtual 78, 33, 0, 0), (33, .ifCond .eq 5, 36, 38, 0), (36, .iload_n 3, 37, 0, 0), (37, .ireturn, 38, 0, 0), (38, .iinc 3 1, 41, 0, 1), (41, .goto (-39), 44, 2, 0), (44, .iconst (-1), 45, 0, (-1)), (45, .ireturn, 46, 0, 0)]])
def m_X9_isText : aM := (yX9_isText, cX9_isText, 6, (Option.some Jvm.ClassFile.FieldType.boolean), [], [[(0, .aload_n 0, 1, 0, 0), (1, .getfield 15, 4, 0, 0), (4, .iload_n 2, 5, 0, 0), (5, .invokestatic 58, 8, 0, 0), (8, .istore 4, 10, 0, 0), (10, .aload_n 0, 11, 0, 0), (11, .getfield 18, 14, 0, 0), (14, .iload_n 2, 15, 0, 0), (15, .invokestatic 58, 18, 0, 0), (18, .iload 4, 20, 0, 0), (20, .isub, 21, 0, 0), (21, .aload_n 3, 22, 0, 0), (22, .invokevirtual 82, 25, 0, 0), (25, .if_icmp .eq 5, 28, 30, 0), (28, .iconst 0, 29, 0, 0), (29, .ireturn, 30, 0, 0), (30, .iconst 0, 31, 0, 0), (31, .istore 5, 33, 0, 0), (33, .iload 5, 35, 0, 0), (35, .aload_n 3, 36, 0, 0), (36, .invokevirtual 82, 39, 0, 0), (39, .if_icmp .ge 29, 42, 68, 0), (42, .aload_n 1, 43, 0, 0), (43, .iload 4, 45, 0, 0), (45, .iload 5, 47, 0, 0), (47, .iadd, 48, 0, 0), (48, .invokevirtual 33, 51, 0, 0), (51, .aload_n 3, 52, 0, 0), (52, .iload 5, 54, 0, 0), (54, .invokevirtual 87, 57, 0, 0), (57, .if_icmp .eq 5, 60, 62, 0), (60, .iconst 0, 61, 0, 0), (61, .ireturn, 62, 0, 0), (62, .iinc 5 1, 65, 0, 1)],
  [(65, .goto (-32), 68, 33, 0), (68, .iconst 1, 69, 0, 1), (69, .ireturn, 70, 0, 0)]])
def m_X9_numberOf : aM := (yX9_numberOf, cX9_numberOf, 7, (Option.some Jvm.ClassFile.FieldType.int), [], [[(0, .aload_n 0, 1, 0, 0), (1, .getfield 15, 4, 0, 0), (4, .iload_n 2, 5, 0, 0), (5, .invokestatic 58, 8, 0, 0), (8, .istore_n 3, 9, 0, 0), (9, .aload_n 0, 10, 0, 0), (10, .getfield 18, 13, 0, 0), (13, .iload_n 2, 14, 0, 0), (14, .invokestatic 58, 17, 0, 0), (17, .istore 4, 19, 0, 0), (19, .iload 4, 21, 0, 0), (21, .iload_n 3, 22, 0, 0), (22, .isub, 23, 0, 0), (23, .iconst 3, 24, 0, 3), (24, .if_icmp .le 5, 27, 29, 0), (27, .iconst (-1), 28, 0, (-1)), (28, .ireturn, 29, 0, 0), (29, .iconst 0, 30, 0, 0), (30, .istore 5, 32, 0, 0), (32, .iload_n 3, 33, 0, 0), (33, .istore 6, 35, 0, 0), (35, .iload 6, 37, 0, 0), (37, .iload 4, 39, 0, 0), (39, .if_icmp .ge 26, 42, 65, 0), (42, .iload 5, 44, 0, 0), (44, .bipush 10, 46, 0, 10), (46, .imul, 47, 0, 0), (47, .aload_n 1, 48, 0, 0), (48, .iload 6, 50, 0, 0), (50, .invokevirtual 33, 53, 0, 0), (53, .iadd, 54, 0, 0), (54, .bipush 48, 56, 0, 48), (56, .isub, 57, 0, 0), (57, .istore 5, 59, 0, 0), (59, .iinc 6 1, 62, 0, 1), (62, .goto (-27), 65, 35, 0)],
  [(65, .iload 5, 67, 0, 0), (67, .ireturn, 68, 0, 0)]])
def m_X9_next : aM := (yX9_next, cX9_next, 1, (Option.none : Option Jvm.ClassFile.FieldType), [], [[(0, .aload_n 0, 1, 0, 0), (1, .aload_n 0, 2, 0, 0), (2, .getfield 52, 5, 0, 0), (5, .iconst 1, 6, 0, 1), (6, .iadd, 7, 0, 0), (7, .aload_n 0, 8, 0, 0), (8, .getfield 24, 11, 0, 0), (11, .iconst 1, 12, 0, 1), (12, .isub, 13, 0, 0), (13, .invokestatic 91, 16, 0, 0), (16, .putfield 52, 19, 0, 0), (19, .aload_n 0, 20, 0, 0), (20, .aload_n 0, 21, 0, 0), (21, .getfield 9, 24, 0, 0), (24, .aload_n 0, 25, 0, 0), (25, .getfield 52, 28, 0, 0), (28, .invokestatic 58, 31, 0, 0), (31, .putfield 97, 34, 0, 0), (34, .aload_n 0, 35, 0, 0), (35, .aload_n 0, 36, 0, 0), (36, .getfield 15, 39, 0, 0), (39, .aload_n 0, 40, 0, 0), (40, .getfield 52, 43, 0, 0), (43, .invokestatic 58, 46, 0, 0), (46, .putfield 100, 49, 0, 0), (49, .aload_n 0, 50, 0, 0), (50, .aload_n 0, 51, 0, 0), (51, .getfield 21, 54, 0, 0), (54, .aload_n 0, 55, 0, 0), (55, .getfield 52, 58, 0, 0), (58, .invokestatic 58, 61, 0, 0), (61, .putfield 103, 64, 0, 0)],
  [(64, .aload_n 0, 65, 0, 0), (65, .aload_n 0, 66, 0, 0), (66, .getfield 97, 69, 0, 0), (69, .iconst 1, 70, 0, 1), (70, .if_icmp .ne 32, 73, 102, 0), (73, .aload_n 0, 74, 0, 0), (74, .getfield 103, 77, 0, 0), (77, .ifCond .lt 25, 80, 102, 0), (80, .aload_n 0, 81, 0, 0), (81, .getfield 103, 84, 0, 0), (84, .getstatic 68, 87, 0, 0), (87, .arraylength, 88, 0, 0), (88, .if_icmp .ge 14, 91, 102, 0), (91, .getstatic 68, 94, 0, 0), (94, .aload_n 0, 95, 0, 0), (95, .getfield 103, 98, 0, 0), (98, .aaload, 99, 0, 0), (99, .goto 4, 102, 103, 0), (102, .aconst_null, 103, 0, 0), (103, .putfield 106, 106, 0, 0), (106, .return_, 107, 0, 0)]])
def m_X9_isEnd : aM := (yX9_isEnd, cX9_isEnd, 1, (Option.some Jvm.ClassFile.FieldType.boolean), [], [[(0, .aload_n 0, 1, 0, 0), (1, .getfield 97, 4, 0, 0), (4, .ifCond .ne 7, 7, 11, 0), (7, .iconst 1, 8, 0, 1), (8, .goto 4, 11, 12, 0), (11, .iconst 0, 12, 0, 0), (12, .ireturn, 13, 0, 0)]])
def m_X9_isSign : aM := (yX9_isSign, cX9_isSign, 2, (Option.some Jvm.ClassFile.FieldType.boolean), [], [[(0, .aload_n 0, 1, 0, 0), (1, .getfield 97, 4, 0, 0), (4, .iconst 3, 5, 0, 3), (5, .if_icmp .ne 15, 8, 20, 0), (8, .aload_n 0, 9, 0, 0), (9, .getfield 103, 12, 0, 0), (12, .iload_n 1, 13, 0, 0), (13, .if_icmp .ne 7, 16, 20, 0), (16, .iconst 1, 17, 0, 1), (17, .goto 4, 20, 21, 0), (20, .iconst 0, 21, 0, 0), (21, .ireturn, 22, 0, 0)]])
def m_X9_takeSign : aM := (yX9_takeSign, cX9_takeSign, 3, (Option.some Jvm.ClassFile.FieldType.boolean), [], [[(0, .aload_n 0, 1, 0, 0), (1, .iload_n 1, 2, 0, 0), (2, .invokevirtual 110, 5, 0, 0), (5, .istore_n 2, 6, 0, 0), (6, .iload_n 2, 7, 0, 0), (7, .ifCond .eq 7, 10, 14, 0), (10, .aload_n 0, 11, 0, 0), (11, .invokevirtual 55, 14, 0, 0), (14, .iload_n 2, 15, 0, 0), (15, .ireturn, 16, 0, 0)]])
def m_X9_takeWord : aM := (yX9_takeWord, cX9_takeWord, 3, (Option.some Jvm.ClassFile.FieldType.boolean), [], [[(0, .aload_n 0, 1, 0, 0), (1, .getfield 106, 4, 0, 0), (4, .aload_n 1, 5, 0, 0), (5, .if_acmp .ne 7, 8, 12, 0), (8, .iconst 1, 9, 0, 1), (9, .goto 4, 12, 13, 0), (12, .iconst 0, 13, 0, 0), (13, .istore_n 2, 14, 0, 0), (14, .iload_n 2, 15, 0, 0), (15, .ifCond .eq 7, 18, 22, 0), (18, .aload_n 0, 19, 0, 0), (19, .invokevirtual 55, 22, 0, 0), (22, .iload_n 2, 23, 0, 0), (23, .ireturn, 24, 0, 0)]])
def m_X9_takeNumber : aM := (yX9_takeNumber, cX9_takeNumber, 4, (Option.some Jvm.ClassFile.FieldType.int), [], [[(0, .aload_n 0, 1, 0, 0), (1, .getfield 103, 4, 0, 0), (4, .istore_n 3, 5, 0, 0), (5, .aload_n 0, 6, 0, 0), (6, .getfield 97, 9, 0, 0), (9, .iconst 2, 10, 0, 2), (10, .if_icmp .ne 13, 13, 23, 0), (13, .iload_n 3, 14, 0, 0), (14, .iload_n 1, 15, 0, 0), (15, .if_icmp .lt 8, 18, 23, 0), (18, .iload_n 3, 19, 0, 0), (19, .iload_n 2, 20, 0, 0), (20, .if_icmp .le 5, 23, 25, 0), (23, .iconst (-1), 24, 0, (-1)), (24, .ireturn, 25, 0, 0), (25, .aload_n 0, 26, 0, 0), (26, .invokevirtual 55, 29, 0, 0), (29, .iload_n 3, 30, 0, 0), (30, .ireturn, 31, 0, 0)]])
def m_X11_init : aM := (yX11_init, cX11_init, 2, (Option.none : Option Jvm.ClassFile.FieldType), [], [[(0, .aload_n 0, 1, 0, 0), (1, .invokespecial 1, 4, 0, 0), (4, .aload_n 0, 5, 0, 0), (5, .new 7, 8, 0, 0), (8, .dup, 9, 0, 0), (9, .invokespecial 9, 12, 0, 0), (12, .putfield 10, 15, 0, 0), (15, .aload_n 0, 16, 0, 0), (16, .new 16, 19, 0, 0), (19, .dup, 20, 0, 0), (20, .invokespecial 18, 23, 0, 0), (23, .putfield 19, 26, 0, 0), (26, .aload_n 0, 27, 0, 0), (27, .new 23, 30, 0, 0), (30, .dup, 31, 0, 0), (31, .invokespecial 25, 34, 0, 0), (34, .putfield 26, 37, 0, 0), (37, .aload_n 0, 38, 0, 0), (38, .iconst (-1), 39, 0, (-1)), (39, .putfield 30, 42, 0, 0), (42, .aload_n 0, 43, 0, 0), (43, .new 34, 46, 0, 0), (46, .dup, 47, 0, 0), (47, .invokespecial 36, 50, 0, 0), (50, .putfield 37, 53, 0, 0), (53, .aload_n 0, 54, 0, 0), (54, .new 41, 57, 0, 0), (57, .dup, 58, 0, 0), (58, .invokespecial 43, 61, 0, 0), (61, .putfield 44, 64, 0, 0)],
  [(64, .aload_n 0, 65, 0, 0), (65, .new 48, 68, 0, 0), (68, .dup, 69, 0, 0), (69, .invokespecial 50, 72, 0, 0), (72, .putfield 51, 75, 0, 0), (75, .aload_n 0, 76, 0, 0), (76, .new 34, 79, 0, 0), (79, .dup, 80, 0, 0), (80, .invokespecial 36, 83, 0, 0), (83, .putfield 55, 86, 0, 0), (86, .aload_n 0, 87, 0, 0), (87, .new 34, 90, 0, 0), (90, .dup, 91, 0, 0), (91, .invokespecial 36, 94, 0, 0), (94, .putfield 58, 97, 0, 0), (97, .aload_n 0, 98, 0, 0), (98, .new 41, 101, 0, 0), (101, .dup, 102, 0, 0), (102, .invokespecial 43, 105, 0, 0), (105, .putfield 61, 108, 0, 0), (108, .aload_n 0, 109, 0, 0), (109, .bipush 12, 111, 0, 12), (111, .anewarray 34, 114, 0, 0), (114, .putfield 64, 117, 0, 0), (117, .iconst 0, 118, 0, 0), (118, .istore_n 1, 119, 0, 0), (119, .iload_n 1, 120, 0, 0), (120, .aload_n 0, 121, 0, 0), (121, .getfield 64, 124, 0, 0), (124, .arraylength, 125, 0, 0), (125, .if_icmp .ge 22, 128, 147, 0)],
  [(128, .aload_n 0, 129, 0, 0), (129, .getfield 64, 132, 0, 0), (132, .iload_n 1, 133, 0, 0), (133, .new 34, 136, 0, 0), (136, .dup, 137, 0, 0), (137, .invokespecial 36, 140, 0, 0), (140, .aastore, 141, 0, 0), (141, .iinc 1 1, 144, 0, 1), (144, .goto (-25), 147, 119, 0), (147, .return_, 148, 0, 0)]])
def m_X11_feed : aM := (yX11_feed, cX11_feed, 6, (Option.some Jvm.ClassFile.FieldType.int), [], [[(0, .aload_n 0, 1, 0, 0), (1, .getfield 10, 4, 0, 0), (4, .getfield 68, 7, 0, 0), (7, .bipush 20, 9, 0, 20), (9, .iadd, 10, 0, 0), (10, .sipush 400, 13, 0, 400), (13, .if_icmp .le 5, 16, 18, 0), (16, .iconst (-1), 17, 0, (-1)), (17, .ireturn, 18, 0, 0), (18, .aload_n 0, 19, 0, 0), (19, .getfield 10, 22, 0, 0), (22, .iload_n 1, 23, 0, 0), (23, .invokevirtual 71, 26, 0, 0), (26, .aload_n 0, 27, 0, 0), (27, .getfield 10, 30, 0, 0), (30, .iload_n 2, 31, 0, 0), (31, .invokevirtual 71, 34, 0, 0), (34, .aload_n 0, 35, 0, 0), (35, .getfield 10, 38, 0, 0), (38, .iload_n 3, 39, 0, 0), (39, .invokevirtual 71, 42, 0, 0), (42, .aload_n 0, 43, 0, 0), (43, .getfield 10, 46, 0, 0), (46, .iload 4, 48, 0, 0), (48, .invokevirtual 71, 51, 0, 0), (51, .aload_n 0, 52, 0, 0), (52, .getfield 10, 55, 0, 0), (55, .iload 5, 57, 0, 0), (57, .invokevirtual 71, 60, 0, 0), (60, .aload_n 0, 61, 0, 0), (61, .getfield 10, 64, 0, 0)],
  [(64, .getfield 68, 67, 0, 0), (67, .ireturn, 68, 0, 0)]])
def m_X11_end : aM := (yX11_end, cX11_end, 2, (Option.some Jvm.ClassFile.FieldType.boolean), [], [[(0, .iload_n 1, 1, 0, 0), (1, .ifCond .lt 14, 4, 15, 0), (4, .iload_n 1, 5, 0, 0), (5, .aload_n 0, 6, 0, 0), (6, .getfield 10, 9, 0, 0), (9, .getfield 68, 12, 0, 0), (12, .if_icmp .le 5, 15, 17, 0), (15, .iconst 0, 16, 0, 0), (16, .ireturn, 17, 0, 0), (17, .aload_n 0, 18, 0, 0), (18, .getfield 10, 21, 0, 0), (21, .iload_n 1, 22, 0, 0), (22, .putfield 68, 25, 0, 0), (25, .iconst 1, 26, 0, 1), (26, .ireturn, 27, 0, 0)]])
def m_X11_street : aM := (yX11_street, cX11_street, 1, (Option.some Jvm.ClassFile.FieldType.int), [], [[(0, .aload_n 0, 1, 0, 0), (1, .getfield 19, 4, 0, 0), (4, .getfield 75, 7, 0, 0), (7, .aload_n 0, 8, 0, 0), (8, .getfield 37, 11, 0, 0), (11, .invokevirtual 78, 14, 0, 0), (14, .aload_n 0, 15, 0, 0), (15, .aload_n 0, 16, 0, 0), (16, .getfield 19, 19, 0, 0), (19, .aload_n 0, 20, 0, 0), (20, .getfield 10, 23, 0, 0), (23, .invokevirtual 82, 26, 0, 0), (26, .putfield 30, 29, 0, 0), (29, .aload_n 0, 30, 0, 0), (30, .getfield 10, 33, 0, 0), (33, .iconst 0, 34, 0, 0), (34, .putfield 68, 37, 0, 0), (37, .aload_n 0, 38, 0, 0), (38, .getfield 30, 41, 0, 0), (41, .iconst (-1), 42, 0, (-1)), (42, .if_icmp .eq 11, 45, 53, 0), (45, .new 86, 48, 0, 0), (48, .dup, 49, 0, 0), (49, .invokespecial 88, 52, 0, 0), (52, .athrow, 53, 0, 0), (53, .aload_n 0, 54, 0, 0), (54, .getfield 37, 57, 0, 0), (57, .getfield 89, 60, 0, 0), (60, .bipush 12, 62, 0, 12), (62, .if_icmp .lt 11, 65, 73, 0)],
  [(65, .new 92, 68, 0, 0), (68, .dup, 69, 0, 0), (69, .invokespecial 94, 72, 0, 0), (72, .athrow, 73, 0, 0), (73, .aload_n 0, 74, 0, 0), (74, .getfield 37, 77, 0, 0), (77, .aload_n 0, 78, 0, 0), (78, .getfield 19, 81, 0, 0), (81, .getfield 75, 84, 0, 0), (84, .invokevirtual 78, 87, 0, 0), (87, .aload_n 0, 88, 0, 0), (88, .getfield 37, 91, 0, 0), (91, .dup, 92, 0, 0), (92, .getfield 89, 95, 0, 0), (95, .iconst 1, 96, 0, 1), (96, .iadd, 97, 0, 0), (97, .putfield 89, 100, 0, 0), (100, .aload_n 0, 101, 0, 0), (101, .iconst 0, 102, 0, 0), (102, .putfield 95, 105, 0, 0), (105, .aload_n 0, 106, 0, 0), (106, .getfield 37, 109, 0, 0), (109, .getfield 89, 112, 0, 0), (112, .ireturn, 113, 0, 0)]])
def m_X11_law : aM := (yX11_law, cX11_law, 1, (Option.some Jvm.ClassFile.FieldType.int), [], [[(0, .aload_n 0, 1, 0, 0), (1, .getfield 26, 4, 0, 0), (4, .getfield 98, 7, 0, 0), (7, .invokevirtual 100, 10, 0, 0), (10, .aload_n 0, 11, 0, 0), (11, .aload_n 0, 12, 0, 0), (12, .getfield 26, 15, 0, 0), (15, .aload_n 0, 16, 0, 0), (16, .getfield 10, 19, 0, 0), (19, .invokevirtual 103, 22, 0, 0), (22, .putfield 30, 25, 0, 0), (25, .aload_n 0, 26, 0, 0), (26, .getfield 10, 29, 0, 0), (29, .iconst 0, 30, 0, 0), (30, .putfield 68, 33, 0, 0), (33, .aload_n 0, 34, 0, 0), (34, .getfield 30, 37, 0, 0), (37, .iconst (-1), 38, 0, (-1)), (38, .if_icmp .eq 11, 41, 49, 0), (41, .new 86, 44, 0, 0), (44, .dup, 45, 0, 0), (45, .invokespecial 88, 48, 0, 0), (48, .athrow, 49, 0, 0), (49, .aload_n 0, 50, 0, 0), (50, .getfield 44, 53, 0, 0), (53, .aload_n 0, 54, 0, 0), (54, .getfield 26, 57, 0, 0), (57, .getfield 98, 60, 0, 0), (60, .invokevirtual 104, 63, 0, 0), (63, .aload_n 0, 64, 0, 0)],
  [(64, .iconst 0, 65, 0, 0), (65, .putfield 95, 68, 0, 0), (68, .aload_n 0, 69, 0, 0), (69, .getfield 44, 72, 0, 0), (72, .getfield 107, 75, 0, 0), (75, .ireturn, 76, 0, 0)]])
def m_X11_fault : aM := (yX11_fault, cX11_fault, 1, (Option.some Jvm.ClassFile.FieldType.int), [], [[(0, .aload_n 0, 1, 0, 0), (1, .getfield 30, 4, 0, 0), (4, .ireturn, 5, 0, 0)]])
def m_X11_person : aM := (yX11_person, cX11_person, 3, (Option.some Jvm.ClassFile.FieldType.int), [], [[(0, .aload_n 0, 1, 0, 0), (1, .iload_n 1, 2, 0, 0), (2, .invokevirtual 110, 5, 0, 0), (5, .iload_n 2, 6, 0, 0), (6, .tableswitch 109 0 5 #[38, 50, 62, 71, 80, 103], 44, 0, 0), (44, .aload_n 0, 45, 0, 0), (45, .getfield 37, 48, 0, 0), (48, .getfield 113, 51, 0, 0), (51, .iload_n 1, 52, 0, 0), (52, .invokestatic 117, 55, 0, 0), (55, .ireturn, 56, 0, 0), (56, .aload_n 0, 57, 0, 0), (57, .getfield 37, 60, 0, 0), (60, .getfield 121, 63, 0, 0), (63, .iload_n 1, 64, 0, 0)],
  [(64, .invokestatic 117, 67, 0, 0), (67, .ireturn, 68, 0, 0), (68, .aload_n 0, 69, 0, 0), (69, .getfield 37, 72, 0, 0), (72, .iload_n 1, 73, 0, 0), (73, .invokevirtual 124, 76, 0, 0), (76, .ireturn, 77, 0, 0), (77, .aload_n 0, 78, 0, 0), (78, .getfield 37, 81, 0, 0), (81, .iload_n 1, 82, 0, 0), (82, .invokevirtual 128, 85, 0, 0), (85, .ireturn, 86, 0, 0), (86, .aload_n 0, 87, 0, 0), (87, .getfield 37, 90, 0, 0), (90, .iload_n 1, 91, 0, 0), (91, .invokevirtual 128, 94, 0, 0), (94, .aload_n 0, 95, 0, 0), (95, .getfield 37, 98, 0, 0), (98, .getfield 121, 101, 0, 0), (101, .iload_n 1, 102, 0, 0), (102, .invokestatic 117, 105, 0, 0), (105, .invokestatic 131, 108, 0, 0), (108, .ireturn, 109, 0, 0), (109, .aload_n 0, 110, 0, 0), (110, .iload_n 1, 111, 0, 0), (111, .invokevirtual 135, 114, 0, 0), (114, .ireturn, 115, 0, 0), (115, .new 138, 118, 0, 0), (118, .dup, 119, 0, 0), (119, .invokespecial 140, 122, 0, 0), (122, .athrow, 123, 0, 0)]])
def m_X11_duty : aM := (yX11_duty, cX11_duty, 3, (Option.some Jvm.ClassFile.FieldType.int), [], [[(0, .aload_n 0, 1, 0, 0), (1, .iload_n 1, 2, 0, 0), (2, .invokevirtual 141, 5, 0, 0), (5, .iload_n 2, 6, 0, 0), (6, .tableswitch 191 0 10 #[58, 70, 82, 94, 106, 118, 130, 147, 160, 173, 182], 64, 0, 0)],
  [(64, .aload_n 0, 65, 0, 0), (65, .getfield 37, 68, 0, 0), (68, .getfield 144, 71, 0, 0), (71, .iload_n 1, 72, 0, 0), (72, .invokestatic 117, 75, 0, 0), (75, .ireturn, 76, 0, 0), (76, .aload_n 0, 77, 0, 0), (77, .getfield 37, 80, 0, 0), (80, .getfield 147, 83, 0, 0), (83, .iload_n 1, 84, 0, 0), (84, .invokestatic 117, 87, 0, 0), (87, .ireturn, 88, 0, 0), (88, .aload_n 0, 89, 0, 0), (89, .getfield 37, 92, 0, 0), (92, .getfield 150, 95, 0, 0), (95, .iload_n 1, 96, 0, 0), (96, .invokestatic 117, 99, 0, 0), (99, .ireturn, 100, 0, 0), (100, .aload_n 0, 101, 0, 0), (101, .getfield 37, 104, 0, 0), (104, .getfield 153, 107, 0, 0), (107, .iload_n 1, 108, 0, 0), (108, .invokestatic 117, 111, 0, 0), (111, .ireturn, 112, 0, 0), (112, .aload_n 0, 113, 0, 0), (113, .getfield 37, 116, 0, 0), (116, .getfield 156, 119, 0, 0), (119, .iload_n 1, 120, 0, 0), (120, .invokestatic 117, 123, 0, 0), (123, .ireturn, 124, 0, 0), (124, .aload_n 0, 125, 0, 0), (125, .getfield 37, 128, 0, 0)],
  [(128, .getfield 159, 131, 0, 0), (131, .iload_n 1, 132, 0, 0), (132, .invokestatic 117, 135, 0, 0), (135, .ireturn, 136, 0, 0), (136, .aload_n 0, 137, 0, 0), (137, .getfield 37, 140, 0, 0), (140, .iload_n 1, 141, 0, 0), (141, .invokevirtual 162, 144, 0, 0), (144, .ifCond .eq 7, 147, 151, 0), (147, .iconst 1, 148, 0, 1), (148, .goto 4, 151, 152, 0), (151, .iconst 0, 152, 0, 0), (152, .ireturn, 153, 0, 0), (153, .aload_n 0, 154, 0, 0), (154, .getfield 44, 157, 0, 0), (157, .aload_n 0, 158, 0, 0), (158, .getfield 37, 161, 0, 0), (161, .iload_n 1, 162, 0, 0), (162, .invokevirtual 166, 165, 0, 0), (165, .ireturn, 166, 0, 0), (166, .aload_n 0, 167, 0, 0), (167, .getfield 44, 170, 0, 0), (170, .aload_n 0, 171, 0, 0), (171, .getfield 37, 174, 0, 0), (174, .iload_n 1, 175, 0, 0), (175, .invokevirtual 170, 178, 0, 0), (178, .ireturn, 179, 0, 0), (179, .aload_n 0, 180, 0, 0), (180, .getfield 37, 183, 0, 0), (183, .iload_n 1, 184, 0, 0), (184, .invokevirtual 173, 187, 0, 0), (187, .ireturn, 188, 0, 0), (188, .aload_n 0, 189, 0, 0), (189, .getfield 37, 192, 0, 0)],
  [(192, .iload_n 1, 193, 0, 0), (193, .invokevirtual 176, 196, 0, 0), (196, .ireturn, 197, 0, 0), (197, .new 138, 200, 0, 0), (200, .dup, 201, 0, 0), (201, .invokespecial 140, 204, 0, 0), (204, .athrow, 205, 0, 0)]])
def m_X11_count : aM := (yX11_count, cX11_count, 2, (Option.some Jvm.ClassFile.FieldType.int), [], [[(0, .iload_n 1, 1, 0, 0), (1, .tableswitch 198 0 14 #[75, 83, 91, 99, 107, 115, 123, 131, 139, 147, 156, 165, 173, 182, 193], 76, 0, 0)],
  [(76, .aload_n 0, 77, 0, 0), (77, .getfield 37, 80, 0, 0), (80, .getfield 179, 83, 0, 0), (83, .ireturn, 84, 0, 0), (84, .aload_n 0, 85, 0, 0), (85, .getfield 37, 88, 0, 0), (88, .getfield 182, 91, 0, 0), (91, .ireturn, 92, 0, 0), (92, .aload_n 0, 93, 0, 0), (93, .getfield 37, 96, 0, 0), (96, .getfield 89, 99, 0, 0), (99, .ireturn, 100, 0, 0), (100, .aload_n 0, 101, 0, 0), (101, .getfield 44, 104, 0, 0), (104, .getfield 107, 107, 0, 0), (107, .ireturn, 108, 0, 0), (108, .aload_n 0, 109, 0, 0), (109, .getfield 37, 112, 0, 0), (112, .getfield 185, 115, 0, 0), (115, .ireturn, 116, 0, 0), (116, .aload_n 0, 117, 0, 0), (117, .getfield 37, 120, 0, 0), (120, .getfield 188, 123, 0, 0), (123, .ireturn, 124, 0, 0), (124, .aload_n 0, 125, 0, 0), (125, .getfield 37, 128, 0, 0)],
  [(128, .getfield 191, 131, 0, 0), (131, .ireturn, 132, 0, 0), (132, .aload_n 0, 133, 0, 0), (133, .getfield 37, 136, 0, 0), (136, .getfield 194, 139, 0, 0), (139, .ireturn, 140, 0, 0), (140, .aload_n 0, 141, 0, 0), (141, .getfield 37, 144, 0, 0), (144, .getfield 197, 147, 0, 0), (147, .ireturn, 148, 0, 0), (148, .aload_n 0, 149, 0, 0), (149, .getfield 37, 152, 0, 0), (152, .iconst 0, 153, 0, 0), (153, .invokevirtual 200, 156, 0, 0), (156, .ireturn, 157, 0, 0), (157, .aload_n 0, 158, 0, 0), (158, .getfield 37, 161, 0, 0), (161, .iconst 1, 162, 0, 1), (162, .invokevirtual 200, 165, 0, 0), (165, .ireturn, 166, 0, 0), (166, .aload_n 0, 167, 0, 0), (167, .getfield 37, 170, 0, 0), (170, .invokevirtual 203, 173, 0, 0), (173, .ireturn, 174, 0, 0), (174, .aload_n 0, 175, 0, 0), (175, .aload_n 0, 176, 0, 0), (176, .getfield 37, 179, 0, 0), (179, .invokevirtual 207, 182, 0, 0), (182, .ireturn, 183, 0, 0), (183, .aload_n 0, 184, 0, 0), (184, .getfield 37, 187, 0, 0), (187, .getfield 211, 190, 0, 0), (190, .getfield 215, 193, 0, 0)],
  [(193, .ireturn, 194, 0, 0), (194, .aload_n 0, 195, 0, 0), (195, .getfield 95, 198, 0, 0), (198, .ireturn, 199, 0, 0), (199, .iconst (-1), 200, 0, (-1)), (200, .ireturn, 201, 0, 0)]])
def m_X11_call : aM := (yX11_call, cX11_call, 3, (Option.some Jvm.ClassFile.FieldType.int), [], [[(0, .aload_n 0, 1, 0, 0), (1, .iload_n 1, 2, 0, 0), (2, .invokevirtual 141, 5, 0, 0), (5, .aload_n 0, 6, 0, 0), (6, .getfield 37, 9, 0, 0), (9, .invokevirtual 220, 12, 0, 0), (12, .iload_n 1, 13, 0, 0), (13, .invokestatic 223, 16, 0, 0), (16, .ifCond .ne 11, 19, 27, 0), (19, .new 227, 22, 0, 0), (22, .dup, 23, 0, 0), (23, .invokespecial 229, 26, 0, 0), (26, .athrow, 27, 0, 0), (27, .aload_n 0, 28, 0, 0), (28, .getfield 37, 31, 0, 0), (31, .iload_n 1, 32, 0, 0), (32, .invokevirtual 176, 35, 0, 0), (35, .istore_n 2, 36, 0, 0), (36, .aload_n 0, 37, 0, 0), (37, .invokevirtual 230, 40, 0, 0), (40, .aload_n 0, 41, 0, 0), (41, .getfield 37, 44, 0, 0), (44, .iload_n 1, 45, 0, 0), (45, .invokevirtual 233, 48, 0, 0), (48, .iload_n 2, 49, 0, 0), (49, .ireturn, 50, 0, 0)]])
def m_X11_put : aM := (yX11_put, cX11_put, 2, (Option.some Jvm.ClassFile.FieldType.int), [], [[(0, .aload_n 0, 1, 0, 0), (1, .iload_n 1, 2, 0, 0), (2, .invokevirtual 141, 5, 0, 0), (5, .aload_n 0, 6, 0, 0), (6, .iload_n 1, 7, 0, 0), (7, .iconst 0, 8, 0, 0), (8, .invokevirtual 236, 11, 0, 0), (11, .aload_n 0, 12, 0, 0), (12, .invokevirtual 230, 15, 0, 0), (15, .aload_n 0, 16, 0, 0), (16, .getfield 37, 19, 0, 0), (19, .iload_n 1, 20, 0, 0), (20, .invokevirtual 240, 23, 0, 0), (23, .aload_n 0, 24, 0, 0), (24, .getfield 37, 27, 0, 0), (27, .getfield 150, 30, 0, 0), (30, .iload_n 1, 31, 0, 0), (31, .invokestatic 117, 34, 0, 0), (34, .ireturn, 35, 0, 0)]])
def m_X11_forget : aM := (yX11_forget, cX11_forget, 2, (Option.some Jvm.ClassFile.FieldType.int), [], [[(0, .aload_n 0, 1, 0, 0), (1, .iload_n 1, 2, 0, 0), (2, .invokevirtual 141, 5, 0, 0), (5, .aload_n 0, 6, 0, 0), (6, .iload_n 1, 7, 0, 0), (7, .iconst 0, 8, 0, 0), (8, .invokevirtual 236, 11, 0, 0), (11, .aload_n 0, 12, 0, 0), (12, .invokevirtual 230, 15, 0, 0), (15, .aload_n 0, 16, 0, 0), (16, .getfield 37, 19, 0, 0), (19, .getfield 159, 22, 0, 0), (22, .iload_n 1, 23, 0, 0), (23, .iconst 2, 24, 0, 2), (24, .invokestatic 243, 27, 0, 0), (27, .aload_n 0, 28, 0, 0), (28, .getfield 37, 31, 0, 0), (31, .getfield 147, 34, 0, 0), (34, .iload_n 1, 35, 0, 0), (35, .invokestatic 117, 38, 0, 0), (38, .ireturn, 39, 0, 0)]])
def m_X11_recall : aM := (yX11_recall, cX11_recall, 2, (Option.some Jvm.ClassFile.FieldType.int), [], [[(0, .aload_n 0, 1, 0, 0), (1, .iload_n 1, 2, 0, 0), (2, .invokevirtual 141, 5, 0, 0), (5, .aload_n 0, 6, 0, 0), (6, .iload_n 1, 7, 0, 0), (7, .iconst 2, 8, 0, 2), (8, .invokevirtual 236, 11, 0, 0), (11, .aload_n 0, 12, 0, 0), (12, .invokevirtual 230, 15, 0, 0), (15, .aload_n 0, 16, 0, 0), (16, .getfield 37, 19, 0, 0), (19, .getfield 159, 22, 0, 0), (22, .iload_n 1, 23, 0, 0), (23, .iconst 0, 24, 0, 0), (24, .invokestatic 243, 27, 0, 0), (27, .aload_n 0, 28, 0, 0), (28, .getfield 37, 31, 0, 0), (31, .getfield 150, 34, 0, 0), (34, .iload_n 1, 35, 0, 0), (35, .invokestatic 117, 38, 0, 0), (38, .ireturn, 39, 0, 0)]])
def m_X11_hand : aM := (yX11_hand, cX11_hand, 4, (Option.some Jvm.ClassFile.FieldType.int), [], [[(0, .aload_n 0, 1, 0, 0), (1, .iload_n 1, 2, 0, 0), (2, .invokevirtual 141, 5, 0, 0), (5, .aload_n 0, 6, 0, 0), (6, .iload_n 2, 7, 0, 0), (7, .invokevirtual 110, 10, 0, 0), (10, .aload_n 0, 11, 0, 0), (11, .getfield 37, 14, 0, 0), (14, .getfield 144, 17, 0, 0), (17, .iload_n 1, 18, 0, 0), (18, .invokestatic 117, 21, 0, 0), (21, .istore_n 3, 22, 0, 0), (22, .iload_n 3, 23, 0, 0), (23, .iload_n 2, 24, 0, 0), (24, .invokestatic 247, 27, 0, 0), (27, .aload_n 0, 28, 0, 0), (28, .getfield 37, 31, 0, 0), (31, .getfield 159, 34, 0, 0), (34, .iload_n 1, 35, 0, 0), (35, .invokestatic 117, 38, 0, 0), (38, .iconst 1, 39, 0, 1), (39, .if_icmp .ne 11, 42, 50, 0), (42, .new 227, 45, 0, 0), (45, .dup, 46, 0, 0), (46, .invokespecial 229, 49, 0, 0), (49, .athrow, 50, 0, 0), (50, .aload_n 0, 51, 0, 0), (51, .invokevirtual 230, 54, 0, 0), (54, .aload_n 0, 55, 0, 0), (55, .getfield 37, 58, 0, 0), (58, .getfield 144, 61, 0, 0), (61, .iload_n 1, 62, 0, 0), (62, .iload_n 2, 63, 0, 0), (63, .invokestatic 243, 66, 0, 0)],
  [(66, .iload_n 3, 67, 0, 0), (67, .ireturn, 68, 0, 0)]])
def m_X11_lean : aM := (yX11_lean, cX11_lean, 4, (Option.some Jvm.ClassFile.FieldType.int), [], [[(0, .aload_n 0, 1, 0, 0), (1, .iload_n 1, 2, 0, 0), (2, .invokevirtual 141, 5, 0, 0), (5, .iload_n 2, 6, 0, 0), (6, .iconst (-1), 7, 0, (-1)), (7, .if_icmp .eq 8, 10, 15, 0), (10, .aload_n 0, 11, 0, 0), (11, .iload_n 2, 12, 0, 0), (12, .invokevirtual 141, 15, 0, 0), (15, .iload_n 1, 16, 0, 0), (16, .iload_n 2, 17, 0, 0), (17, .invokestatic 247, 20, 0, 0), (20, .aload_n 0, 21, 0, 0), (21, .getfield 37, 24, 0, 0), (24, .getfield 156, 27, 0, 0), (27, .iload_n 1, 28, 0, 0), (28, .invokestatic 117, 31, 0, 0), (31, .istore_n 3, 32, 0, 0), (32, .aload_n 0, 33, 0, 0), (33, .invokevirtual 230, 36, 0, 0), (36, .aload_n 0, 37, 0, 0), (37, .getfield 37, 40, 0, 0), (40, .getfield 156, 43, 0, 0), (43, .iload_n 1, 44, 0, 0), (44, .iload_n 2, 45, 0, 0), (45, .invokestatic 243, 48, 0, 0), (48, .iload_n 3, 49, 0, 0), (49, .ireturn, 50, 0, 0)]])
def m_X11_free : aM := (yX11_free, cX11_free, 4, (Option.some Jvm.ClassFile.FieldType.int), [], [[(0, .aload_n 0, 1, 0, 0), (1, .iload_n 1, 2, 0, 0), (2, .invokevirtual 110, 5, 0, 0), (5, .iload_n 2, 6, 0, 0), (6, .iconst 0, 7, 0, 0), (7, .bipush 9, 9, 0, 9), (9, .invokestatic 250, 12, 0, 0), (12, .aload_n 0, 13, 0, 0), (13, .getfield 37, 16, 0, 0), (16, .getfield 121, 19, 0, 0), (19, .iload_n 1, 20, 0, 0), (20, .invokestatic 117, 23, 0, 0), (23, .istore_n 3, 24, 0, 0), (24, .aload_n 0, 25, 0, 0), (25, .invokevirtual 230, 28, 0, 0), (28, .aload_n 0, 29, 0, 0), (29, .getfield 37, 32, 0, 0), (32, .getfield 121, 35, 0, 0), (35, .iload_n 1, 36, 0, 0), (36, .iload_n 2, 37, 0, 0), (37, .invokestatic 243, 40, 0, 0), (40, .iload_n 3, 41, 0, 0), (41, .ireturn, 42, 0, 0)]])
def m_X11_days : aM := (yX11_days, cX11_days, 4, (Option.some Jvm.ClassFile.FieldType.int), [], [[(0, .iload_n 1, 1, 0, 0), (1, .iconst 1, 2, 0, 1), (2, .bipush 90, 4, 0, 90), (4, .invokestatic 250, 7, 0, 0), (7, .aload_n 0, 8, 0, 0), (8, .invokevirtual 230, 11, 0, 0), (11, .aload_n 0, 12, 0, 0), (12, .getfield 37, 15, 0, 0), (15, .iconst 1, 16, 0, 1), (16, .invokevirtual 200, 19, 0, 0), (19, .istore_n 2, 20, 0, 0), (20, .iconst 0, 21, 0, 0), (21, .istore_n 3, 22, 0, 0), (22, .iload_n 3, 23, 0, 0), (23, .iload_n 1, 24, 0, 0), (24, .if_icmp .ge 36, 27, 60, 0), (27, .aload_n 0, 28, 0, 0), (28, .getfield 37, 31, 0, 0), (31, .aload_n 0, 32, 0, 0), (32, .getfield 44, 35, 0, 0), (35, .iconst 1, 36, 0, 1), (36, .invokevirtual 254, 39, 0, 0), (39, .aload_n 0, 40, 0, 0), (40, .getfield 37, 43, 0, 0), (43, .getfield 185, 46, 0, 0), (46, .iconst 2, 47, 0, 2), (47, .if_icmp .ne 7, 50, 54, 0), (50, .aload_n 0, 51, 0, 0), (51, .invokevirtual 258, 54, 0, 0), (54, .iinc 3 1, 57, 0, 1), (57, .goto (-35), 60, 22, 0), (60, .aload_n 0, 61, 0, 0), (61, .getfield 37, 64, 0, 0)],
  [(64, .iconst 1, 65, 0, 1), (65, .invokevirtual 200, 68, 0, 0), (68, .iload_n 2, 69, 0, 0), (69, .iconst (-1), 70, 0, (-1)), (70, .ixor, 71, 0, 0), (71, .iand, 72, 0, 0), (72, .invokestatic 261, 75, 0, 0), (75, .ireturn, 76, 0, 0)]])
def m_X11_parade : aM := (yX11_parade, cX11_parade, 2, (Option.some Jvm.ClassFile.FieldType.int), [], [[(0, .aload_n 0, 1, 0, 0), (1, .getfield 37, 4, 0, 0), (4, .iload_n 1, 5, 0, 0), (5, .invokevirtual 266, 8, 0, 0), (8, .ireturn, 9, 0, 0)]])
def m_X11_can : aM := (yX11_can, cX11_can, 1, (Option.some Jvm.ClassFile.FieldType.int), [], [[(0, .aload_n 0, 1, 0, 0), (1, .getfield 37, 4, 0, 0), (4, .invokevirtual 220, 7, 0, 0), (7, .ireturn, 8, 0, 0)]])
def m_X11_greets : aM := (yX11_greets, cX11_greets, 4, (Option.some Jvm.ClassFile.FieldType.int), [], [[(0, .aload_n 0, 1, 0, 0), (1, .iload_n 1, 2, 0, 0), (2, .invokevirtual 141, 5, 0, 0), (5, .iload_n 2, 6, 0, 0), (6, .invokestatic 269, 9, 0, 0), (9, .aload_n 0, 10, 0, 0), (10, .getfield 37, 13, 0, 0), (13, .iload_n 1, 14, 0, 0), (14, .invokevirtual 173, 17, 0, 0), (17, .istore_n 3, 18, 0, 0), (18, .iload_n 3, 19, 0, 0), (19, .iconst (-1), 20, 0, (-1)), (20, .if_icmp .ne 7, 23, 27, 0), (23, .iconst (-1), 24, 0, (-1)), (24, .goto 14, 27, 38, 0), (27, .aload_n 0, 28, 0, 0), (28, .getfield 37, 31, 0, 0), (31, .getfield 194, 34, 0, 0), (34, .iload_n 3, 35, 0, 0), (35, .iload_n 2, 36, 0, 0), (36, .iadd, 37, 0, 0), (37, .imul, 38, 0, 0), (38, .ireturn, 39, 0, 0)]])
def m_X11_where : aM := (yX11_where, cX11_where, 3, (Option.some Jvm.ClassFile.FieldType.int), [], [[(0, .aload_n 0, 1, 0, 0), (1, .iload_n 1, 2, 0, 0), (2, .invokevirtual 141, 5, 0, 0), (5, .iload_n 2, 6, 0, 0), (6, .iconst 0, 7, 0, 0), (7, .sipush 300, 10, 0, 300), (10, .invokestatic 250, 13, 0, 0), (13, .aload_n 0, 14, 0, 0), (14, .getfield 37, 17, 0, 0), (17, .iload_n 1, 18, 0, 0), (18, .iload_n 2, 19, 0, 0), (19, .invokevirtual 272, 22, 0, 0), (22, .ireturn, 23, 0, 0)]])
def m_X11_crowd : aM := (yX11_crowd, cX11_crowd, 7, (Option.some Jvm.ClassFile.FieldType.int), [], [[(0, .iload_n 1, 1, 0, 0), (1, .invokestatic 269, 4, 0, 0), (4, .iload_n 2, 5, 0, 0), (5, .invokestatic 269, 8, 0, 0), (8, .iload_n 3, 9, 0, 0), (9, .iconst 0, 10, 0, 0), (10, .sipush 300, 13, 0, 300), (13, .invokestatic 250, 16, 0, 0), (16, .iload_n 1, 17, 0, 0), (17, .iconst 0, 18, 0, 0), (18, .iload_n 2, 19, 0, 0), (19, .invokestatic 250, 22, 0, 0), (22, .iconst 0, 23, 0, 0), (23, .istore 4, 25, 0, 0), (25, .iconst 0, 26, 0, 0), (26, .istore 5, 28, 0, 0), (28, .iload 5, 30, 0, 0), (30, .aload_n 0, 31, 0, 0), (31, .getfield 37, 34, 0, 0), (34, .getfield 182, 37, 0, 0), (37, .if_icmp .ge 36, 40, 73, 0), (40, .aload_n 0, 41, 0, 0), (41, .getfield 37, 44, 0, 0), (44, .iload 5, 46, 0, 0), (46, .iload_n 3, 47, 0, 0), (47, .invokevirtual 272, 50, 0, 0), (50, .istore 6, 52, 0, 0), (52, .iload 6, 54, 0, 0), (54, .iload_n 1, 55, 0, 0), (55, .if_icmp .lt 12, 58, 67, 0), (58, .iload 6, 60, 0, 0), (60, .iload_n 2, 61, 0, 0), (61, .if_icmp .gt 6, 64, 67, 0)],
  [(64, .iinc 4 1, 67, 0, 1), (67, .iinc 5 1, 70, 0, 1), (70, .goto (-42), 73, 28, 0), (73, .iload 4, 75, 0, 0), (75, .ireturn, 76, 0, 0)]])
def m_X11_most : aM := (yX11_most, cX11_most, 1, (Option.some Jvm.ClassFile.FieldType.int), [], [[(0, .aload_n 0, 1, 0, 0), (1, .getfield 51, 4, 0, 0), (4, .aload_n 0, 5, 0, 0), (5, .getfield 37, 8, 0, 0), (8, .invokevirtual 275, 11, 0, 0), (11, .ireturn, 12, 0, 0)]])
def m_X11_does : aM := (yX11_does, cX11_does, 4, (Option.some Jvm.ClassFile.FieldType.int), [], [[(0, .iload_n 1, 1, 0, 0), (1, .iconst 0, 2, 0, 0), (2, .bipush 99, 4, 0, 99), (4, .invokestatic 250, 7, 0, 0), (7, .aload_n 0, 8, 0, 0), (8, .getfield 51, 11, 0, 0), (11, .aload_n 0, 12, 0, 0), (12, .getfield 37, 15, 0, 0), (15, .aload_n 0, 16, 0, 0), (16, .getfield 44, 19, 0, 0), (19, .iload_n 1, 20, 0, 0), (20, .invokevirtual 278, 23, 0, 0), (23, .istore_n 3, 24, 0, 0), (24, .iload_n 2, 25, 0, 0), (25, .ifCond .eq 29, 28, 54, 0), (28, .aload_n 0, 29, 0, 0), (29, .getfield 44, 32, 0, 0), (32, .aload_n 0, 33, 0, 0), (33, .getfield 37, 36, 0, 0), (36, .aload_n 0, 37, 0, 0), (37, .getfield 37, 40, 0, 0), (40, .iconst 0, 41, 0, 0), (41, .invokevirtual 200, 44, 0, 0), (44, .iload_n 3, 45, 0, 0), (45, .iconst (-1), 46, 0, (-1)), (46, .ixor, 47, 0, 0), (47, .iand, 48, 0, 0), (48, .invokevirtual 282, 51, 0, 0), (51, .goto 4, 54, 55, 0), (54, .iload_n 3, 55, 0, 0), (55, .ireturn, 56, 0, 0)]])
def m_X11_soon : aM := (yX11_soon, cX11_soon, 2, (Option.some Jvm.ClassFile.FieldType.int), [], [[(0, .aload_n 0, 1, 0, 0), (1, .iload_n 1, 2, 0, 0), (2, .invokevirtual 141, 5, 0, 0), (5, .aload_n 0, 6, 0, 0), (6, .getfield 37, 9, 0, 0), (9, .iload_n 1, 10, 0, 0), (10, .invokestatic 285, 13, 0, 0), (13, .ireturn, 14, 0, 0)]])
def m_X11_longest : aM := (yX11_longest, cX11_longest, 3, (Option.some Jvm.ClassFile.FieldType.int), [], [[(0, .iconst 0, 1, 0, 0), (1, .istore_n 1, 2, 0, 0), (2, .iconst 0, 3, 0, 0), (3, .istore_n 2, 4, 0, 0), (4, .iload_n 2, 5, 0, 0), (5, .aload_n 0, 6, 0, 0), (6, .getfield 37, 9, 0, 0), (9, .getfield 182, 12, 0, 0), (12, .if_icmp .ge 22, 15, 34, 0), (15, .iload_n 1, 16, 0, 0), (16, .aload_n 0, 17, 0, 0), (17, .getfield 37, 20, 0, 0), (20, .iload_n 2, 21, 0, 0), (21, .invokestatic 285, 24, 0, 0), (24, .invokestatic 290, 27, 0, 0), (27, .istore_n 1, 28, 0, 0), (28, .iinc 2 1, 31, 0, 1), (31, .goto (-27), 34, 4, 0), (34, .iload_n 1, 35, 0, 0), (35, .ireturn, 36, 0, 0)]])
def m_X11_ring : aM := (yX11_ring, cX11_ring, 1, (Option.some Jvm.ClassFile.FieldType.int), [], [[(0, .aload_n 0, 1, 0, 0), (1, .getfield 37, 4, 0, 0), (4, .invokestatic 295, 7, 0, 0), (7, .ireturn, 8, 0, 0)]])
def m_X11_before : aM := (yX11_before, cX11_before, 2, (Option.some Jvm.ClassFile.FieldType.int), [], [[(0, .aload_n 0, 1, 0, 0), (1, .iload_n 1, 2, 0, 0), (2, .invokevirtual 141, 5, 0, 0), (5, .aload_n 0, 6, 0, 0), (6, .getfield 37, 9, 0, 0), (9, .iload_n 1, 10, 0, 0), (10, .invokestatic 298, 13, 0, 0), (13, .ireturn, 14, 0, 0)]])
def m_X11_after : aM := (yX11_after, cX11_after, 2, (Option.some Jvm.ClassFile.FieldType.int), [], [[(0, .aload_n 0, 1, 0, 0), (1, .iload_n 1, 2, 0, 0), (2, .invokevirtual 141, 5, 0, 0), (5, .aload_n 0, 6, 0, 0), (6, .getfield 37, 9, 0, 0), (9, .iload_n 1, 10, 0, 0), (10, .invokestatic 301, 13, 0, 0), (13, .ireturn, 14, 0, 0)]])
def m_X11_depth : aM := (yX11_depth, cX11_depth, 2, (Option.some Jvm.ClassFile.FieldType.int), [], [[(0, .aload_n 0, 1, 0, 0), (1, .iload_n 1, 2, 0, 0), (2, .invokevirtual 141, 5, 0, 0), (5, .aload_n 0, 6, 0, 0), (6, .getfield 37, 9, 0, 0), (9, .iload_n 1, 10, 0, 0), (10, .invokestatic 298, 13, 0, 0), (13, .aload_n 0, 14, 0, 0), (14, .getfield 37, 17, 0, 0), (17, .iconst 1, 18, 0, 1), (18, .invokevirtual 200, 21, 0, 0), (21, .iconst (-1), 22, 0, (-1)), (22, .ixor, 23, 0, 0), (23, .iand, 24, 0, 0), (24, .invokestatic 261, 27, 0, 0), (27, .ireturn, 28, 0, 0)]])
def m_X11_young : aM := (yX11_young, cX11_young, 2, (Option.some Jvm.ClassFile.FieldType.int), [], [[(0, .iload_n 1, 1, 0, 0), (1, .iconst 0, 2, 0, 0), (2, .bipush 98, 4, 0, 98), (4, .invokestatic 250, 7, 0, 0), (7, .aload_n 0, 8, 0, 0), (8, .getfield 37, 11, 0, 0), (11, .iload_n 1, 12, 0, 0), (12, .invokestatic 304, 15, 0, 0), (15, .ireturn, 16, 0, 0)]])
def m_X11_older : aM := (yX11_older, cX11_older, 2, (Option.some Jvm.ClassFile.FieldType.int), [], [[(0, .iload_n 1, 1, 0, 0), (1, .iconst 0, 2, 0, 0), (2, .bipush 99, 4, 0, 99), (4, .invokestatic 250, 7, 0, 0), (7, .aload_n 0, 8, 0, 0), (8, .getfield 37, 11, 0, 0), (11, .iload_n 1, 12, 0, 0), (12, .invokevirtual 307, 15, 0, 0), (15, .invokestatic 261, 18, 0, 0), (18, .ireturn, 19, 0, 0)]])
def m_X11_whose : aM := (yX11_whose, cX11_whose, 2, (Option.some Jvm.ClassFile.FieldType.int), [], [[(0, .aload_n 0, 1, 0, 0), (1, .invokevirtual 310, 4, 0, 0), (4, .istore_n 1, 5, 0, 0), (5, .iload_n 1, 6, 0, 0), (6, .iconst (-1), 7, 0, (-1)), (7, .if_icmp .ne 11, 10, 18, 0), (10, .new 86, 13, 0, 0), (13, .dup, 14, 0, 0), (14, .invokespecial 88, 17, 0, 0), (17, .athrow, 18, 0, 0), (18, .iload_n 1, 19, 0, 0), (19, .ireturn, 20, 0, 0)]])
def m_X11_ask : aM := (yX11_ask, cX11_ask, 2, (Option.some Jvm.ClassFile.FieldType.int), [], [[(0, .aload_n 0, 1, 0, 0), (1, .invokevirtual 310, 4, 0, 0), (4, .istore_n 1, 5, 0, 0), (5, .iload_n 1, 6, 0, 0), (6, .iconst (-1), 7, 0, (-1)), (7, .if_icmp .ne 11, 10, 18, 0), (10, .new 86, 13, 0, 0), (13, .dup, 14, 0, 0), (14, .invokespecial 88, 17, 0, 0), (17, .athrow, 18, 0, 0), (18, .aload_n 0, 19, 0, 0), (19, .iload_n 1, 20, 0, 0), (20, .invokevirtual 313, 23, 0, 0), (23, .ireturn, 24, 0, 0)]])
def m_X11_gap : aM := (yX11_gap, cX11_gap, 2, (Option.some Jvm.ClassFile.FieldType.int), [], [[(0, .iconst 0, 1, 0, 0), (1, .istore_n 1, 2, 0, 0), (2, .iload_n 1, 3, 0, 0), (3, .bipush 99, 5, 0, 99), (5, .if_icmp .ge 19, 8, 24, 0), (8, .aload_n 0, 9, 0, 0), (9, .iload_n 1, 10, 0, 0), (10, .invokevirtual 316, 13, 0, 0), (13, .ifCond .eq 5, 16, 18, 0), (16, .iload_n 1, 17, 0, 0), (17, .ireturn, 18, 0, 0), (18, .iinc 1 1, 21, 0, 1), (21, .goto (-19), 24, 2, 0), (24, .iconst (-1), 25, 0, (-1)), (25, .ireturn, 26, 0, 0)]])
def m_X11_lost : aM := (yX11_lost, cX11_lost, 1, (Option.some Jvm.ClassFile.FieldType.int), [], [[(0, .aload_n 0, 1, 0, 0), (1, .getfield 37, 4, 0, 0), (4, .iconst 2, 5, 0, 2), (5, .invokevirtual 200, 8, 0, 0), (8, .ireturn, 9, 0, 0)]])
def m_X11_missed : aM := (yX11_missed, cX11_missed, 3, (Option.some Jvm.ClassFile.FieldType.int), [], [[(0, .iconst 0, 1, 0, 0), (1, .istore_n 1, 2, 0, 0), (2, .iconst 0, 3, 0, 0), (3, .istore_n 2, 4, 0, 0), (4, .iload_n 2, 5, 0, 0), (5, .aload_n 0, 6, 0, 0), (6, .getfield 37, 9, 0, 0), (9, .getfield 182, 12, 0, 0), (12, .if_icmp .ge 49, 15, 61, 0), (15, .aload_n 0, 16, 0, 0), (16, .getfield 37, 19, 0, 0), (19, .getfield 159, 22, 0, 0), (22, .iload_n 2, 23, 0, 0), (23, .invokestatic 117, 26, 0, 0), (26, .iconst 2, 27, 0, 2), (27, .if_icmp .ne 28, 30, 55, 0), (30, .aload_n 0, 31, 0, 0), (31, .aload_n 0, 32, 0, 0), (32, .getfield 37, 35, 0, 0), (35, .getfield 150, 38, 0, 0), (38, .iload_n 2, 39, 0, 0), (39, .invokestatic 117, 42, 0, 0), (42, .invokevirtual 316, 45, 0, 0), (45, .ifCond .eq 10, 48, 55, 0), (48, .iload_n 1, 49, 0, 0), (49, .iload_n 2, 50, 0, 0), (50, .invokestatic 319, 53, 0, 0), (53, .ior, 54, 0, 0), (54, .istore_n 1, 55, 0, 0), (55, .iinc 2 1, 58, 0, 1), (58, .goto (-54), 61, 4, 0), (61, .iload_n 1, 62, 0, 0), (62, .ireturn, 63, 0, 0)]])
def m_X11_swap : aM := (yX11_swap, cX11_swap, 3, (Option.some Jvm.ClassFile.FieldType.int), [], [[(0, .aload_n 0, 1, 0, 0), (1, .iload_n 1, 2, 0, 0), (2, .invokevirtual 110, 5, 0, 0), (5, .aload_n 0, 6, 0, 0), (6, .iload_n 2, 7, 0, 0), (7, .invokevirtual 110, 10, 0, 0), (10, .iload_n 1, 11, 0, 0), (11, .iload_n 2, 12, 0, 0), (12, .invokestatic 247, 15, 0, 0), (15, .aload_n 0, 16, 0, 0), (16, .getfield 37, 19, 0, 0), (19, .iload_n 1, 20, 0, 0), (20, .iload_n 2, 21, 0, 0), (21, .invokestatic 322, 24, 0, 0), (24, .ireturn, 25, 0, 0)]])
def m_X11_rests : aM := (yX11_rests, cX11_rests, 4, (Option.some Jvm.ClassFile.FieldType.int), [], [[(0, .aload_n 0, 1, 0, 0), (1, .iload_n 1, 2, 0, 0), (2, .invokevirtual 110, 5, 0, 0), (5, .aload_n 0, 6, 0, 0), (6, .iload_n 2, 7, 0, 0), (7, .invokevirtual 110, 10, 0, 0), (10, .aload_n 0, 11, 0, 0), (11, .iload_n 3, 12, 0, 0), (12, .invokevirtual 141, 15, 0, 0), (15, .iload_n 1, 16, 0, 0), (16, .iload_n 2, 17, 0, 0), (17, .invokestatic 247, 20, 0, 0), (20, .aload_n 0, 21, 0, 0), (21, .getfield 44, 24, 0, 0), (24, .aload_n 0, 25, 0, 0), (25, .getfield 37, 28, 0, 0), (28, .iload_n 3, 29, 0, 0), (29, .invokevirtual 170, 32, 0, 0), (32, .aload_n 0, 33, 0, 0), (33, .getfield 37, 36, 0, 0), (36, .getfield 147, 39, 0, 0), (39, .iload_n 3, 40, 0, 0), (40, .invokestatic 117, 43, 0, 0), (43, .invokestatic 326, 46, 0, 0), (46, .ireturn, 47, 0, 0)]])
def m_X11_sponsor : aM := (yX11_sponsor, cX11_sponsor, 3, (Option.some Jvm.ClassFile.FieldType.int), [], [[(0, .iconst 0, 1, 0, 0), (1, .istore_n 1, 2, 0, 0), (2, .iconst 0, 3, 0, 0), (3, .istore_n 2, 4, 0, 0), (4, .iload_n 2, 5, 0, 0), (5, .aload_n 0, 6, 0, 0), (6, .getfield 37, 9, 0, 0), (9, .getfield 182, 12, 0, 0), (12, .if_icmp .ge 58, 15, 70, 0), (15, .aload_n 0, 16, 0, 0), (16, .getfield 37, 19, 0, 0), (19, .iload_n 2, 20, 0, 0), (20, .invokevirtual 329, 23, 0, 0), (23, .ifCond .eq 41, 26, 64, 0), (26, .iload_n 1, 27, 0, 0), (27, .iconst 0, 28, 0, 0), (28, .aload_n 0, 29, 0, 0), (29, .getfield 37, 32, 0, 0), (32, .getfield 197, 35, 0, 0), (35, .aload_n 0, 36, 0, 0), (36, .getfield 37, 39, 0, 0), (39, .getfield 150, 42, 0, 0), (42, .iload_n 2, 43, 0, 0), (43, .invokestatic 117, 46, 0, 0), (46, .imul, 47, 0, 0), (47, .aload_n 0, 48, 0, 0), (48, .getfield 37, 51, 0, 0), (51, .getfield 147, 54, 0, 0), (54, .iload_n 2, 55, 0, 0), (55, .invokestatic 117, 58, 0, 0), (58, .isub, 59, 0, 0), (59, .invokestatic 290, 62, 0, 0), (62, .iadd, 63, 0, 0), (63, .istore_n 1, 64, 0, 0)],
  [(64, .iinc 2 1, 67, 0, 1), (67, .goto (-63), 70, 4, 0), (70, .iload_n 1, 71, 0, 0), (71, .ireturn, 72, 0, 0)]])
def m_X11_idle : aM := (yX11_idle, cX11_idle, 5, (Option.some Jvm.ClassFile.FieldType.int), [], [[(0, .iconst (-1), 1, 0, (-1)), (1, .istore_n 1, 2, 0, 0), (2, .iconst 0, 3, 0, 0), (3, .istore_n 2, 4, 0, 0), (4, .iconst 0, 5, 0, 0), (5, .istore_n 3, 6, 0, 0), (6, .iload_n 3, 7, 0, 0), (7, .aload_n 0, 8, 0, 0), (8, .getfield 37, 11, 0, 0), (11, .getfield 179, 14, 0, 0), (14, .if_icmp .ge 35, 17, 49, 0), (17, .aload_n 0, 18, 0, 0), (18, .getfield 37, 21, 0, 0), (21, .iload_n 3, 22, 0, 0), (22, .invokevirtual 128, 25, 0, 0), (25, .istore 4, 27, 0, 0), (27, .iload_n 1, 28, 0, 0), (28, .iconst (-1), 29, 0, (-1)), (29, .if_icmp .eq 9, 32, 38, 0), (32, .iload 4, 34, 0, 0), (34, .iload_n 2, 35, 0, 0), (35, .if_icmp .ge 8, 38, 43, 0), (38, .iload_n 3, 39, 0, 0), (39, .istore_n 1, 40, 0, 0), (40, .iload 4, 42, 0, 0), (42, .istore_n 2, 43, 0, 0), (43, .iinc 3 1, 46, 0, 1), (46, .goto (-40), 49, 6, 0), (49, .iload_n 1, 50, 0, 0), (50, .ireturn, 51, 0, 0)]])
def m_X11_worst : aM := (yX11_worst, cX11_worst, 5, (Option.some Jvm.ClassFile.FieldType.int), [], [[(0, .iconst (-1), 1, 0, (-1)), (1, .istore_n 1, 2, 0, 0), (2, .iconst (-1), 3, 0, (-1)), (3, .istore_n 2, 4, 0, 0), (4, .iconst 0, 5, 0, 0), (5, .istore_n 3, 6, 0, 0), (6, .iload_n 3, 7, 0, 0), (7, .aload_n 0, 8, 0, 0), (8, .getfield 37, 11, 0, 0), (11, .getfield 182, 14, 0, 0), (14, .if_icmp .ge 49, 17, 63, 0), (17, .aload_n 0, 18, 0, 0), (18, .getfield 37, 21, 0, 0), (21, .iload_n 3, 22, 0, 0), (22, .invokevirtual 329, 25, 0, 0), (25, .ifCond .eq 18, 28, 43, 0), (28, .aload_n 0, 29, 0, 0), (29, .getfield 44, 32, 0, 0), (32, .aload_n 0, 33, 0, 0), (33, .getfield 37, 36, 0, 0), (36, .iload_n 3, 37, 0, 0), (37, .invokevirtual 170, 40, 0, 0), (40, .goto 4, 43, 44, 0), (43, .iconst (-1), 44, 0, (-1)), (44, .istore 4, 46, 0, 0), (46, .iload 4, 48, 0, 0), (48, .iload_n 2, 49, 0, 0), (49, .if_icmp .le 8, 52, 57, 0), (52, .iload_n 3, 53, 0, 0), (53, .istore_n 1, 54, 0, 0), (54, .iload 4, 56, 0, 0), (56, .istore_n 2, 57, 0, 0), (57, .iinc 3 1, 60, 0, 1), (60, .goto (-54), 63, 6, 0), (63, .iload_n 1, 64, 0, 0)],
  [(64, .ireturn, 65, 0, 0)]])
def m_X11_alike : aM := (yX11_alike, cX11_alike, 4, (Option.some Jvm.ClassFile.FieldType.int), [], [[(0, .iconst 0, 1, 0, 0), (1, .istore_n 1, 2, 0, 0), (2, .iconst 0, 3, 0, 0), (3, .istore_n 2, 4, 0, 0), (4, .iload_n 2, 5, 0, 0), (5, .aload_n 0, 6, 0, 0), (6, .getfield 37, 9, 0, 0), (9, .getfield 182, 12, 0, 0), (12, .if_icmp .ge 45, 15, 57, 0), (15, .iload_n 2, 16, 0, 0), (16, .iconst 1, 17, 0, 1), (17, .iadd, 18, 0, 0), (18, .istore_n 3, 19, 0, 0), (19, .iload_n 3, 20, 0, 0), (20, .aload_n 0, 21, 0, 0), (21, .getfield 37, 24, 0, 0), (24, .getfield 182, 27, 0, 0), (27, .if_icmp .ge 24, 30, 51, 0), (30, .aload_n 0, 31, 0, 0), (31, .getfield 37, 34, 0, 0), (34, .iload_n 2, 35, 0, 0), (35, .iload_n 3, 36, 0, 0), (36, .invokevirtual 332, 39, 0, 0), (39, .ifCond .eq 6, 42, 45, 0), (42, .iinc 1 1, 45, 0, 1), (45, .iinc 3 1, 48, 0, 1), (48, .goto (-29), 51, 19, 0), (51, .iinc 2 1, 54, 0, 1), (54, .goto (-50), 57, 4, 0), (57, .iload_n 1, 58, 0, 0), (58, .ireturn, 59, 0, 0)]])
def m_X11_odds : aM := (yX11_odds, cX11_odds, 3, (Option.some Jvm.ClassFile.FieldType.int), [], [[(0, .iload_n 1, 1, 0, 0), (1, .iconst 0, 2, 0, 0), (2, .bipush 6, 4, 0, 6), (4, .invokestatic 250, 7, 0, 0), (7, .iload_n 2, 8, 0, 0), (8, .iconst 0, 9, 0, 0), (9, .bipush 6, 11, 0, 6), (11, .invokestatic 250, 14, 0, 0), (14, .aload_n 0, 15, 0, 0), (15, .getfield 37, 18, 0, 0), (18, .getfield 191, 21, 0, 0), (21, .iload_n 1, 22, 0, 0), (22, .iload_n 2, 23, 0, 0), (23, .invokestatic 335, 26, 0, 0), (26, .ireturn, 27, 0, 0)]])
def m_X11_spare : aM := (yX11_spare, cX11_spare, 3, (Option.some Jvm.ClassFile.FieldType.int), [], [[(0, .aload_n 0, 1, 0, 0), (1, .iload_n 1, 2, 0, 0), (2, .invokevirtual 110, 5, 0, 0), (5, .iload_n 2, 6, 0, 0), (6, .iconst 1, 7, 0, 1), (7, .bipush 54, 9, 0, 54), (9, .invokestatic 250, 12, 0, 0), (12, .bipush 100, 14, 0, 100), (14, .aload_n 0, 15, 0, 0), (15, .getfield 37, 18, 0, 0), (18, .getfield 191, 21, 0, 0), (21, .isub, 22, 0, 0), (22, .aload_n 0, 23, 0, 0), (23, .getfield 37, 26, 0, 0), (26, .getfield 121, 29, 0, 0), (29, .iload_n 1, 30, 0, 0), (30, .invokestatic 117, 33, 0, 0), (33, .iload_n 2, 34, 0, 0), (34, .invokestatic 339, 37, 0, 0), (37, .ireturn, 38, 0, 0)]])
def m_X11_done : aM := (yX11_done, cX11_done, 2, (Option.some Jvm.ClassFile.FieldType.int), [], [[(0, .aload_n 0, 1, 0, 0), (1, .iload_n 1, 2, 0, 0), (2, .invokevirtual 141, 5, 0, 0), (5, .aload_n 0, 6, 0, 0), (6, .getfield 55, 9, 0, 0), (9, .aload_n 0, 10, 0, 0), (10, .getfield 37, 13, 0, 0), (13, .invokevirtual 78, 16, 0, 0), (16, .aload_n 0, 17, 0, 0), (17, .getfield 55, 20, 0, 0), (20, .aload_n 0, 21, 0, 0), (21, .getfield 44, 24, 0, 0), (24, .iload_n 1, 25, 0, 0), (25, .invokevirtual 342, 28, 0, 0), (28, .ireturn, 29, 0, 0)]])
def m_X11_all : aM := (yX11_all, cX11_all, 2, (Option.some Jvm.ClassFile.FieldType.int), [], [[(0, .aload_n 0, 1, 0, 0), (1, .getfield 55, 4, 0, 0), (4, .aload_n 0, 5, 0, 0), (5, .getfield 37, 8, 0, 0), (8, .invokevirtual 78, 11, 0, 0), (11, .aload_n 0, 12, 0, 0), (12, .getfield 55, 15, 0, 0), (15, .aload_n 0, 16, 0, 0), (16, .getfield 44, 19, 0, 0), (19, .invokevirtual 346, 22, 0, 0), (22, .istore_n 1, 23, 0, 0), (23, .iload_n 1, 24, 0, 0), (24, .sipush 1000, 27, 0, 1000), (27, .if_icmp .ne 7, 30, 34, 0), (30, .iconst (-1), 31, 0, (-1)), (31, .goto 4, 34, 35, 0), (34, .iload_n 1, 35, 0, 0), (35, .ireturn, 36, 0, 0)]])
def m_X11_help : aM := (yX11_help, cX11_help, 5, (Option.some Jvm.ClassFile.FieldType.int), [], [[(0, .aload_n 0, 1, 0, 0), (1, .getfield 55, 4, 0, 0), (4, .aload_n 0, 5, 0, 0), (5, .getfield 37, 8, 0, 0), (8, .invokevirtual 78, 11, 0, 0), (11, .aload_n 0, 12, 0, 0), (12, .getfield 55, 15, 0, 0), (15, .aload_n 0, 16, 0, 0), (16, .getfield 44, 19, 0, 0), (19, .invokevirtual 346, 22, 0, 0), (22, .istore_n 1, 23, 0, 0), (23, .iconst (-1), 24, 0, (-1)), (24, .istore_n 2, 25, 0, 0), (25, .iconst 0, 26, 0, 0), (26, .istore_n 3, 27, 0, 0), (27, .iload_n 3, 28, 0, 0), (28, .aload_n 0, 29, 0, 0), (29, .getfield 37, 32, 0, 0), (32, .getfield 179, 35, 0, 0), (35, .if_icmp .ge 73, 38, 108, 0), (38, .aload_n 0, 39, 0, 0), (39, .getfield 55, 42, 0, 0), (42, .aload_n 0, 43, 0, 0), (43, .getfield 37, 46, 0, 0), (46, .invokevirtual 78, 49, 0, 0), (49, .aload_n 0, 50, 0, 0), (50, .getfield 55, 53, 0, 0), (53, .getfield 121, 56, 0, 0), (56, .iload_n 3, 57, 0, 0), (57, .bipush 9, 59, 0, 9), (59, .aload_n 0, 60, 0, 0), (60, .getfield 37, 63, 0, 0), (63, .getfield 121, 66, 0, 0)],
  [(66, .iload_n 3, 67, 0, 0), (67, .invokestatic 117, 70, 0, 0), (70, .iconst 1, 71, 0, 1), (71, .iadd, 72, 0, 0), (72, .invokestatic 350, 75, 0, 0), (75, .invokestatic 243, 78, 0, 0), (78, .aload_n 0, 79, 0, 0), (79, .getfield 55, 82, 0, 0), (82, .aload_n 0, 83, 0, 0), (83, .getfield 44, 86, 0, 0), (86, .invokevirtual 346, 89, 0, 0), (89, .istore 4, 91, 0, 0), (91, .iload 4, 93, 0, 0), (93, .iload_n 1, 94, 0, 0), (94, .if_icmp .ge 8, 97, 102, 0), (97, .iload 4, 99, 0, 0), (99, .istore_n 1, 100, 0, 0), (100, .iload_n 3, 101, 0, 0), (101, .istore_n 2, 102, 0, 0), (102, .iinc 3 1, 105, 0, 1), (105, .goto (-78), 108, 27, 0), (108, .iload_n 2, 109, 0, 0), (109, .ireturn, 110, 0, 0)]])
def m_X11_crux : aM := (yX11_crux, cX11_crux, 5, (Option.some Jvm.ClassFile.FieldType.int), [], [[(0, .aload_n 0, 1, 0, 0), (1, .getfield 55, 4, 0, 0), (4, .aload_n 0, 5, 0, 0), (5, .getfield 37, 8, 0, 0), (8, .invokevirtual 78, 11, 0, 0), (11, .aload_n 0, 12, 0, 0), (12, .getfield 55, 15, 0, 0), (15, .aload_n 0, 16, 0, 0), (16, .getfield 44, 19, 0, 0), (19, .invokevirtual 346, 22, 0, 0), (22, .istore_n 1, 23, 0, 0), (23, .iconst (-1), 24, 0, (-1)), (24, .istore_n 2, 25, 0, 0), (25, .iconst 0, 26, 0, 0), (26, .istore_n 3, 27, 0, 0), (27, .iload_n 3, 28, 0, 0), (28, .aload_n 0, 29, 0, 0), (29, .getfield 37, 32, 0, 0), (32, .getfield 182, 35, 0, 0), (35, .if_icmp .ge 63, 38, 98, 0), (38, .aload_n 0, 39, 0, 0), (39, .getfield 37, 42, 0, 0), (42, .iload_n 3, 43, 0, 0), (43, .invokevirtual 329, 46, 0, 0), (46, .ifCond .eq 46, 49, 92, 0), (49, .aload_n 0, 50, 0, 0), (50, .getfield 55, 53, 0, 0), (53, .aload_n 0, 54, 0, 0), (54, .getfield 37, 57, 0, 0), (57, .invokevirtual 78, 60, 0, 0), (60, .aload_n 0, 61, 0, 0), (61, .getfield 55, 64, 0, 0)],
  [(64, .iload_n 3, 65, 0, 0), (65, .invokevirtual 233, 68, 0, 0), (68, .aload_n 0, 69, 0, 0), (69, .getfield 55, 72, 0, 0), (72, .aload_n 0, 73, 0, 0), (73, .getfield 44, 76, 0, 0), (76, .invokevirtual 346, 79, 0, 0), (79, .istore 4, 81, 0, 0), (81, .iload 4, 83, 0, 0), (83, .iload_n 1, 84, 0, 0), (84, .if_icmp .ge 8, 87, 92, 0), (87, .iload 4, 89, 0, 0), (89, .istore_n 1, 90, 0, 0), (90, .iload_n 3, 91, 0, 0), (91, .istore_n 2, 92, 0, 0), (92, .iinc 3 1, 95, 0, 1), (95, .goto (-68), 98, 27, 0), (98, .iload_n 2, 99, 0, 0), (99, .ireturn, 100, 0, 0)]])
def m_X11_sick : aM := (yX11_sick, cX11_sick, 4, (Option.some Jvm.ClassFile.FieldType.int), [], [[(0, .aload_n 0, 1, 0, 0), (1, .iload_n 1, 2, 0, 0), (2, .invokevirtual 110, 5, 0, 0), (5, .aload_n 0, 6, 0, 0), (6, .getfield 55, 9, 0, 0), (9, .aload_n 0, 10, 0, 0), (10, .getfield 37, 13, 0, 0), (13, .invokevirtual 78, 16, 0, 0), (16, .aload_n 0, 17, 0, 0), (17, .getfield 55, 20, 0, 0), (20, .aload_n 0, 21, 0, 0), (21, .getfield 44, 24, 0, 0), (24, .invokevirtual 346, 27, 0, 0), (27, .istore_n 2, 28, 0, 0), (28, .iload_n 2, 29, 0, 0), (29, .sipush 1000, 32, 0, 1000), (32, .if_icmp .ne 5, 35, 37, 0), (35, .iconst (-1), 36, 0, (-1)), (36, .ireturn, 37, 0, 0), (37, .aload_n 0, 38, 0, 0), (38, .getfield 55, 41, 0, 0), (41, .aload_n 0, 42, 0, 0), (42, .getfield 37, 45, 0, 0), (45, .invokevirtual 78, 48, 0, 0), (48, .aload_n 0, 49, 0, 0), (49, .getfield 55, 52, 0, 0), (52, .getfield 121, 55, 0, 0), (55, .iload_n 1, 56, 0, 0), (56, .iconst 0, 57, 0, 0), (57, .invokestatic 243, 60, 0, 0), (60, .aload_n 0, 61, 0, 0), (61, .getfield 55, 64, 0, 0)],
  [(64, .aload_n 0, 65, 0, 0), (65, .getfield 44, 68, 0, 0), (68, .invokevirtual 346, 71, 0, 0), (71, .istore_n 3, 72, 0, 0), (72, .iload_n 3, 73, 0, 0), (73, .sipush 1000, 76, 0, 1000), (76, .if_icmp .ne 9, 79, 85, 0), (79, .sipush 1000, 82, 0, 1000), (82, .goto 6, 85, 88, 0), (85, .iload_n 3, 86, 0, 0), (86, .iload_n 2, 87, 0, 0), (87, .isub, 88, 0, 0), (88, .ireturn, 89, 0, 0)]])
def m_X11_ahead : aM := (yX11_ahead, cX11_ahead, 5, (Option.some Jvm.ClassFile.FieldType.int), [], [[(0, .aload_n 0, 1, 0, 0), (1, .iload_n 1, 2, 0, 0), (2, .invokevirtual 141, 5, 0, 0), (5, .iload_n 2, 6, 0, 0), (6, .iconst 0, 7, 0, 0), (7, .bipush 90, 9, 0, 90), (9, .invokestatic 250, 12, 0, 0), (12, .iload_n 3, 13, 0, 0), (13, .ifCond .lt 8, 16, 21, 0), (16, .iload_n 3, 17, 0, 0), (17, .iconst 2, 18, 0, 2), (18, .if_icmp .le 11, 21, 29, 0), (21, .new 138, 24, 0, 0), (24, .dup, 25, 0, 0), (25, .invokespecial 140, 28, 0, 0), (28, .athrow, 29, 0, 0), (29, .aload_n 0, 30, 0, 0), (30, .getfield 55, 33, 0, 0), (33, .aload_n 0, 34, 0, 0), (34, .getfield 37, 37, 0, 0), (37, .invokevirtual 78, 40, 0, 0), (40, .iconst 0, 41, 0, 0), (41, .istore 4, 43, 0, 0), (43, .iload 4, 45, 0, 0), (45, .iload_n 2, 46, 0, 0), (46, .if_icmp .ge 21, 49, 67, 0), (49, .aload_n 0, 50, 0, 0), (50, .getfield 55, 53, 0, 0), (53, .aload_n 0, 54, 0, 0), (54, .getfield 44, 57, 0, 0), (57, .iconst 0, 58, 0, 0), (58, .invokevirtual 254, 61, 0, 0), (61, .iinc 4 1, 64, 0, 1)],
  [(64, .goto (-21), 67, 43, 0), (67, .iload_n 3, 68, 0, 0), (68, .lookupswitch 52 #[(0, 28), (1, 40)], 96, 0, 0), (96, .aload_n 0, 97, 0, 0), (97, .getfield 55, 100, 0, 0), (100, .getfield 147, 103, 0, 0), (103, .iload_n 1, 104, 0, 0), (104, .invokestatic 117, 107, 0, 0), (107, .ireturn, 108, 0, 0), (108, .aload_n 0, 109, 0, 0), (109, .getfield 55, 112, 0, 0), (112, .getfield 150, 115, 0, 0), (115, .iload_n 1, 116, 0, 0), (116, .invokestatic 117, 119, 0, 0), (119, .ireturn, 120, 0, 0), (120, .aload_n 0, 121, 0, 0), (121, .getfield 55, 124, 0, 0), (124, .getfield 159, 127, 0, 0), (127, .iload_n 1, 128, 0, 0)],
  [(128, .invokestatic 117, 131, 0, 0), (131, .ireturn, 132, 0, 0)]])
def m_X11_trial : aM := (yX11_trial, cX11_trial, 4, (Option.some Jvm.ClassFile.FieldType.int), [], [[(0, .iload_n 1, 1, 0, 0), (1, .iconst 0, 2, 0, 0), (2, .bipush 90, 4, 0, 90), (4, .invokestatic 250, 7, 0, 0), (7, .aload_n 0, 8, 0, 0), (8, .iload_n 1, 9, 0, 0), (9, .aload_n 0, 10, 0, 0), (10, .getfield 37, 13, 0, 0), (13, .getfield 353, 16, 0, 0), (16, .invokevirtual 356, 19, 0, 0), (19, .istore_n 3, 20, 0, 0), (20, .iload_n 2, 21, 0, 0), (21, .ifCond .eq 14, 24, 35, 0), (24, .aload_n 0, 25, 0, 0), (25, .getfield 55, 28, 0, 0), (28, .iconst 1, 29, 0, 1), (29, .invokevirtual 200, 32, 0, 0), (32, .goto 4, 35, 36, 0), (35, .iload_n 3, 36, 0, 0), (36, .ireturn, 37, 0, 0)]])
def m_X11_span : aM := (yX11_span, cX11_span, 6, (Option.some Jvm.ClassFile.FieldType.int), [], [[(0, .iload_n 1, 1, 0, 0), (1, .iconst 0, 2, 0, 0), (2, .bipush 90, 4, 0, 90), (4, .invokestatic 250, 7, 0, 0), (7, .aload_n 0, 8, 0, 0), (8, .iload_n 1, 9, 0, 0), (9, .iconst 1, 10, 0, 1), (10, .invokevirtual 356, 13, 0, 0), (13, .istore_n 3, 14, 0, 0), (14, .iconst 2, 15, 0, 2), (15, .istore 4, 17, 0, 0), (17, .iload 4, 19, 0, 0), (19, .bipush 6, 21, 0, 6), (21, .if_icmp .gt 38, 24, 59, 0), (24, .aload_n 0, 25, 0, 0), (25, .iload_n 1, 26, 0, 0), (26, .iload 4, 28, 0, 0), (28, .invokevirtual 356, 31, 0, 0), (31, .istore 5, 33, 0, 0), (33, .iload_n 2, 34, 0, 0), (34, .ifCond .eq 12, 37, 46, 0), (37, .iload_n 3, 38, 0, 0), (38, .iload 5, 40, 0, 0), (40, .invokestatic 290, 43, 0, 0), (43, .goto 9, 46, 52, 0), (46, .iload_n 3, 47, 0, 0), (47, .iload 5, 49, 0, 0), (49, .invokestatic 350, 52, 0, 0), (52, .istore_n 3, 53, 0, 0), (53, .iinc 4 1, 56, 0, 1), (56, .goto (-39), 59, 17, 0), (59, .iload_n 3, 60, 0, 0), (60, .ireturn, 61, 0, 0)]])
def m_X11_led : aM := (yX11_led, cX11_led, 3, (Option.some Jvm.ClassFile.FieldType.int), [], [[(0, .aload_n 0, 1, 0, 0), (1, .iload_n 1, 2, 0, 0), (2, .invokevirtual 141, 5, 0, 0), (5, .iload_n 2, 6, 0, 0), (6, .ifCond .eq 17, 9, 23, 0), (9, .aload_n 0, 10, 0, 0), (10, .getfield 37, 13, 0, 0), (13, .getfield 211, 16, 0, 0), (16, .iload_n 1, 17, 0, 0), (17, .invokevirtual 359, 20, 0, 0), (20, .goto 14, 23, 34, 0), (23, .aload_n 0, 24, 0, 0), (24, .getfield 37, 27, 0, 0), (27, .getfield 211, 30, 0, 0), (30, .iload_n 1, 31, 0, 0), (31, .invokevirtual 362, 34, 0, 0), (34, .ireturn, 35, 0, 0)]])
def m_X11_log : aM := (yX11_log, cX11_log, 3, (Option.some Jvm.ClassFile.FieldType.int), [], [[(0, .iload_n 2, 1, 0, 0), (1, .ifCond .lt 8, 4, 9, 0), (4, .iload_n 2, 5, 0, 0), (5, .iconst 3, 6, 0, 3), (6, .if_icmp .le 11, 9, 17, 0), (9, .new 138, 12, 0, 0), (12, .dup, 13, 0, 0), (13, .invokespecial 140, 16, 0, 0), (16, .athrow, 17, 0, 0), (17, .aload_n 0, 18, 0, 0), (18, .getfield 37, 21, 0, 0), (21, .getfield 211, 24, 0, 0), (24, .iload_n 1, 25, 0, 0), (25, .iload_n 2, 26, 0, 0), (26, .invokevirtual 365, 29, 0, 0), (29, .ireturn, 30, 0, 0)]])
def m_X11_seed : aM := (yX11_seed, cX11_seed, 3, (Option.some Jvm.ClassFile.FieldType.int), [], [[(0, .aload_n 0, 1, 0, 0), (1, .getfield 37, 4, 0, 0), (4, .getfield 353, 7, 0, 0), (7, .istore_n 2, 8, 0, 0), (8, .aload_n 0, 9, 0, 0), (9, .getfield 37, 12, 0, 0), (12, .iload_n 1, 13, 0, 0), (13, .putfield 353, 16, 0, 0), (16, .iload_n 2, 17, 0, 0), (17, .ireturn, 18, 0, 0)]])
def m_X11_undo : aM := (yX11_undo, cX11_undo, 2, (Option.some Jvm.ClassFile.FieldType.boolean), [], [[(0, .aload_n 0, 1, 0, 0), (1, .getfield 95, 4, 0, 0), (4, .iconst 1, 5, 0, 1), (5, .if_icmp .ge 5, 8, 10, 0), (8, .iconst 0, 9, 0, 0), (9, .ireturn, 10, 0, 0), (10, .aload_n 0, 11, 0, 0), (11, .dup, 12, 0, 0), (12, .getfield 95, 15, 0, 0), (15, .iconst 1, 16, 0, 1), (16, .isub, 17, 0, 0), (17, .putfield 95, 20, 0, 0), (20, .aload_n 0, 21, 0, 0), (21, .aload_n 0, 22, 0, 0), (22, .getfield 368, 25, 0, 0), (25, .aload_n 0, 26, 0, 0), (26, .getfield 95, 29, 0, 0), (29, .iadd, 30, 0, 0), (30, .invokevirtual 371, 33, 0, 0), (33, .astore_n 1, 34, 0, 0), (34, .aload_n 1, 35, 0, 0), (35, .ifnull 11, 38, 46, 0), (38, .aload_n 0, 39, 0, 0), (39, .getfield 37, 42, 0, 0), (42, .aload_n 1, 43, 0, 0), (43, .invokevirtual 375, 46, 0, 0), (46, .iconst 1, 47, 0, 1), (47, .ireturn, 48, 0, 0)]])
def m_X11_image : aM := (yX11_image, cX11_image, 1, (Option.none : Option Jvm.ClassFile.FieldType), [], [[(0, .aload_n 0, 1, 0, 0), (1, .getfield 58, 4, 0, 0), (4, .aload_n 0, 5, 0, 0), (5, .getfield 37, 8, 0, 0), (8, .invokevirtual 375, 11, 0, 0), (11, .aload_n 0, 12, 0, 0), (12, .getfield 61, 15, 0, 0), (15, .aload_n 0, 16, 0, 0), (16, .getfield 44, 19, 0, 0), (19, .invokevirtual 104, 22, 0, 0), (22, .aload_n 0, 23, 0, 0), (23, .iconst 1, 24, 0, 1), (24, .putfield 378, 27, 0, 0), (27, .return_, 28, 0, 0)]])
def m_X11_back : aM := (yX11_back, cX11_back, 1, (Option.some Jvm.ClassFile.FieldType.boolean), [], [[(0, .aload_n 0, 1, 0, 0), (1, .getfield 378, 4, 0, 0), (4, .ifCond .ne 5, 7, 9, 0), (7, .iconst 0, 8, 0, 0), (8, .ireturn, 9, 0, 0), (9, .aload_n 0, 10, 0, 0), (10, .getfield 37, 13, 0, 0), (13, .aload_n 0, 14, 0, 0), (14, .getfield 58, 17, 0, 0), (17, .invokevirtual 375, 20, 0, 0), (20, .aload_n 0, 21, 0, 0), (21, .getfield 44, 24, 0, 0), (24, .aload_n 0, 25, 0, 0), (25, .getfield 61, 28, 0, 0), (28, .invokevirtual 104, 31, 0, 0), (31, .aload_n 0, 32, 0, 0), (32, .iconst 0, 33, 0, 0), (33, .putfield 95, 36, 0, 0), (36, .iconst 1, 37, 0, 1), (37, .ireturn, 38, 0, 0)]])
def m_X11_needPerson : aM := (yX11_needPerson, cX11_needPerson, 2, (Option.none : Option Jvm.ClassFile.FieldType), [], [[(0, .iload_n 1, 1, 0, 0), (1, .ifCond .lt 14, 4, 15, 0), (4, .iload_n 1, 5, 0, 0), (5, .aload_n 0, 6, 0, 0), (6, .getfield 37, 9, 0, 0), (9, .getfield 179, 12, 0, 0), (12, .if_icmp .lt 11, 15, 23, 0), (15, .new 382, 18, 0, 0), (18, .dup, 19, 0, 0), (19, .invokespecial 384, 22, 0, 0), (22, .athrow, 23, 0, 0), (23, .return_, 24, 0, 0)]])
def m_X11_needDuty : aM := (yX11_needDuty, cX11_needDuty, 2, (Option.none : Option Jvm.ClassFile.FieldType), [], [[(0, .iload_n 1, 1, 0, 0), (1, .ifCond .lt 14, 4, 15, 0), (4, .iload_n 1, 5, 0, 0), (5, .aload_n 0, 6, 0, 0), (6, .getfield 37, 9, 0, 0), (9, .getfield 182, 12, 0, 0), (12, .if_icmp .lt 11, 15, 23, 0), (15, .new 382, 18, 0, 0), (18, .dup, 19, 0, 0), (19, .invokespecial 384, 22, 0, 0), (22, .athrow, 23, 0, 0), (23, .return_, 24, 0, 0)]])
def m_X11_needKerb : aM := (yX11_needKerb, cX11_needKerb, 1, (Option.none : Option Jvm.ClassFile.FieldType), [], [[(0, .iload_n 0, 1, 0, 0), (1, .ifCond .lt 9, 4, 10, 0), (4, .iload_n 0, 5, 0, 0), (5, .bipush 15, 7, 0, 15), (7, .if_icmp .le 11, 10, 18, 0), (10, .new 382, 13, 0, 0), (13, .dup, 14, 0, 0), (14, .invokespecial 384, 17, 0, 0), (17, .athrow, 18, 0, 0), (18, .return_, 19, 0, 0)]])
def m_X11_needNumber : aM := (yX11_needNumber, cX11_needNumber, 3, (Option.none : Option Jvm.ClassFile.FieldType), [], [[(0, .iload_n 0, 1, 0, 0), (1, .iload_n 1, 2, 0, 0), (2, .if_icmp .lt 8, 5, 10, 0), (5, .iload_n 0, 6, 0, 0), (6, .iload_n 2, 7, 0, 0), (7, .if_icmp .le 11, 10, 18, 0), (10, .new 86, 13, 0, 0), (13, .dup, 14, 0, 0), (14, .invokespecial 88, 17, 0, 0), (17, .athrow, 18, 0, 0), (18, .return_, 19, 0, 0)]])
def m_X11_needTwo : aM := (yX11_needTwo, cX11_needTwo, 2, (Option.none : Option Jvm.ClassFile.FieldType), [], [[(0, .iload_n 0, 1, 0, 0), (1, .iload_n 1, 2, 0, 0), (2, .if_icmp .ne 11, 5, 13, 0), (5, .new 86, 8, 0, 0), (8, .dup, 9, 0, 0), (9, .invokespecial 88, 12, 0, 0), (12, .athrow, 13, 0, 0), (13, .return_, 14, 0, 0)]])
def m_X11_needState : aM := (yX11_needState, cX11_needState, 3, (Option.none : Option Jvm.ClassFile.FieldType), [], [[(0, .aload_n 0, 1, 0, 0), (1, .getfield 37, 4, 0, 0), (4, .getfield 159, 7, 0, 0), (7, .iload_n 1, 8, 0, 0), (8, .invokestatic 117, 11, 0, 0), (11, .iload_n 2, 12, 0, 0), (12, .if_icmp .eq 11, 15, 23, 0), (15, .new 227, 18, 0, 0), (18, .dup, 19, 0, 0), (19, .invokespecial 229, 22, 0, 0), (22, .athrow, 23, 0, 0), (23, .return_, 24, 0, 0)]])
def m_X11_pastAt : aM := (yX11_pastAt, cX11_pastAt, 3, (Option.some (Jvm.ClassFile.FieldType.object "PutOffParade$Street")), [], [[(0, .iload_n 1, 1, 0, 0), (1, .bipush 12, 3, 0, 12), (3, .irem, 4, 0, 0), (4, .istore_n 2, 5, 0, 0), (5, .iload_n 2, 6, 0, 0), (6, .ifCond .lt 21, 9, 27, 0), (9, .iload_n 2, 10, 0, 0), (10, .aload_n 0, 11, 0, 0), (11, .getfield 64, 14, 0, 0), (14, .arraylength, 15, 0, 0), (15, .if_icmp .ge 12, 18, 27, 0), (18, .aload_n 0, 19, 0, 0), (19, .getfield 64, 22, 0, 0), (22, .iload_n 2, 23, 0, 0), (23, .aaload, 24, 0, 0), (24, .goto 4, 27, 28, 0), (27, .aconst_null, 28, 0, 0), (28, .areturn, 29, 0, 0)]])
def m_X11_rememberAct : aM := (yX11_rememberAct, cX11_rememberAct, 2, (Option.none : Option Jvm.ClassFile.FieldType), [], [[(0, .aload_n 0, 1, 0, 0), (1, .getfield 95, 4, 0, 0), (4, .bipush 12, 6, 0, 12), (6, .if_icmp .ne 26, 9, 32, 0), (9, .aload_n 0, 10, 0, 0), (10, .aload_n 0, 11, 0, 0), (11, .getfield 368, 14, 0, 0), (14, .iconst 1, 15, 0, 1), (15, .iadd, 16, 0, 0), (16, .bipush 12, 18, 0, 12), (18, .irem, 19, 0, 0), (19, .putfield 368, 22, 0, 0), (22, .aload_n 0, 23, 0, 0), (23, .dup, 24, 0, 0), (24, .getfield 95, 27, 0, 0), (27, .iconst 1, 28, 0, 1), (28, .isub, 29, 0, 0), (29, .putfield 95, 32, 0, 0), (32, .aload_n 0, 33, 0, 0), (33, .aload_n 0, 34, 0, 0), (34, .getfield 368, 37, 0, 0), (37, .aload_n 0, 38, 0, 0), (38, .getfield 95, 41, 0, 0), (41, .iadd, 42, 0, 0), (42, .invokevirtual 371, 45, 0, 0), (45, .astore_n 1, 46, 0, 0), (46, .aload_n 1, 47, 0, 0), (47, .ifnull 11, 50, 58, 0), (50, .aload_n 1, 51, 0, 0), (51, .aload_n 0, 52, 0, 0), (52, .getfield 37, 55, 0, 0), (55, .invokevirtual 375, 58, 0, 0), (58, .aload_n 0, 59, 0, 0), (59, .dup, 60, 0, 0), (60, .getfield 95, 63, 0, 0), (63, .iconst 1, 64, 0, 1)],
  [(64, .iadd, 65, 0, 0), (65, .putfield 95, 68, 0, 0), (68, .return_, 69, 0, 0)]])
def m_X11_letParadeGoBy : aM := (yX11_letParadeGoBy, cX11_letParadeGoBy, 3, (Option.none : Option Jvm.ClassFile.FieldType), [], [[(0, .iconst 0, 1, 0, 0), (1, .istore_n 1, 2, 0, 0), (2, .iload_n 1, 3, 0, 0), (3, .bipush 12, 5, 0, 12), (5, .if_icmp .ge 54, 8, 59, 0), (8, .aload_n 0, 9, 0, 0), (9, .getfield 37, 12, 0, 0), (12, .iload_n 1, 13, 0, 0), (13, .invokevirtual 266, 16, 0, 0), (16, .istore_n 2, 17, 0, 0), (17, .iload_n 2, 18, 0, 0), (18, .iconst (-1), 19, 0, (-1)), (19, .if_icmp .eq 34, 22, 53, 0), (22, .aload_n 0, 23, 0, 0), (23, .getfield 37, 26, 0, 0), (26, .getfield 211, 29, 0, 0), (29, .aload_n 0, 30, 0, 0), (30, .getfield 37, 33, 0, 0), (33, .getfield 188, 36, 0, 0), (36, .iload_n 2, 37, 0, 0), (37, .iload_n 1, 38, 0, 0), (38, .aload_n 0, 39, 0, 0), (39, .getfield 44, 42, 0, 0), (42, .aload_n 0, 43, 0, 0), (43, .getfield 37, 46, 0, 0), (46, .iload_n 2, 47, 0, 0), (47, .invokevirtual 170, 50, 0, 0), (50, .invokevirtual 385, 53, 0, 0), (53, .iinc 1 1, 56, 0, 1), (56, .goto (-54), 59, 2, 0), (59, .return_, 60, 0, 0)]])
def m_X11_shameTriedOut : aM := (yX11_shameTriedOut, cX11_shameTriedOut, 4, (Option.some Jvm.ClassFile.FieldType.int), [], [[(0, .aload_n 0, 1, 0, 0), (1, .getfield 55, 4, 0, 0), (4, .aload_n 0, 5, 0, 0), (5, .getfield 37, 8, 0, 0), (8, .invokevirtual 78, 11, 0, 0), (11, .aload_n 0, 12, 0, 0), (12, .getfield 55, 15, 0, 0), (15, .iload_n 2, 16, 0, 0), (16, .putfield 353, 19, 0, 0), (19, .iconst 0, 20, 0, 0), (20, .istore_n 3, 21, 0, 0), (21, .iload_n 3, 22, 0, 0), (22, .iload_n 1, 23, 0, 0), (23, .if_icmp .ge 21, 26, 44, 0), (26, .aload_n 0, 27, 0, 0), (27, .getfield 55, 30, 0, 0), (30, .aload_n 0, 31, 0, 0), (31, .getfield 44, 34, 0, 0), (34, .iconst 1, 35, 0, 1), (35, .invokevirtual 254, 38, 0, 0), (38, .iinc 3 1, 41, 0, 1), (41, .goto (-20), 44, 21, 0), (44, .aload_n 0, 45, 0, 0), (45, .aload_n 0, 46, 0, 0), (46, .getfield 55, 49, 0, 0), (49, .invokevirtual 207, 52, 0, 0), (52, .ireturn, 53, 0, 0)]])
def m_X11_shameOfWaiting : aM := (yX11_shameOfWaiting, cX11_shameOfWaiting, 2, (Option.some Jvm.ClassFile.FieldType.int), [], [[(0, .aload_n 0, 1, 0, 0), (1, .getfield 44, 4, 0, 0), (4, .aload_n 1, 5, 0, 0), (5, .aload_n 1, 6, 0, 0), (6, .iconst 0, 7, 0, 0), (7, .invokevirtual 200, 10, 0, 0), (10, .invokevirtual 282, 13, 0, 0), (13, .ireturn, 14, 0, 0)]])
def m_X11_shareOf : aM := (yX11_shareOf, cX11_shareOf, 4, (Option.some Jvm.ClassFile.FieldType.int), [], [[(0, .aload_n 0, 1, 0, 0), (1, .aload_n 0, 2, 0, 0), (2, .getfield 37, 5, 0, 0), (5, .invokevirtual 207, 8, 0, 0), (8, .istore_n 2, 9, 0, 0), (9, .aload_n 0, 10, 0, 0), (10, .getfield 44, 13, 0, 0), (13, .aload_n 0, 14, 0, 0), (14, .getfield 37, 17, 0, 0), (17, .aload_n 0, 18, 0, 0), (18, .getfield 37, 21, 0, 0), (21, .iconst 0, 22, 0, 0), (22, .invokevirtual 200, 25, 0, 0), (25, .aload_n 0, 26, 0, 0), (26, .getfield 37, 29, 0, 0), (29, .iload_n 1, 30, 0, 0), (30, .invokevirtual 124, 33, 0, 0), (33, .iand, 34, 0, 0), (34, .invokevirtual 282, 37, 0, 0), (37, .istore_n 3, 38, 0, 0), (38, .iload_n 2, 39, 0, 0), (39, .ifCond .le 12, 42, 51, 0), (42, .iload_n 3, 43, 0, 0), (43, .bipush 100, 45, 0, 100), (45, .imul, 46, 0, 0), (46, .iload_n 2, 47, 0, 0), (47, .idiv, 48, 0, 0), (48, .goto 4, 51, 52, 0), (51, .iconst 0, 52, 0, 0), (52, .ireturn, 53, 0, 0)]])
def m_X11_isGap : aM := (yX11_isGap, cX11_isGap, 3, (Option.some Jvm.ClassFile.FieldType.boolean), [], [[(0, .iload_n 1, 1, 0, 0), (1, .ifCond .lt 20, 4, 21, 0), (4, .iload_n 1, 5, 0, 0), (5, .bipush 99, 7, 0, 99), (7, .if_icmp .ge 14, 10, 21, 0), (10, .aload_n 0, 11, 0, 0), (11, .getfield 37, 14, 0, 0), (14, .iload_n 1, 15, 0, 0), (15, .invokevirtual 307, 18, 0, 0), (18, .ifCond .ne 5, 21, 23, 0), (21, .iconst 0, 22, 0, 0), (22, .ireturn, 23, 0, 0), (23, .iconst 0, 24, 0, 0), (24, .istore_n 2, 25, 0, 0), (25, .iload_n 2, 26, 0, 0), (26, .aload_n 0, 27, 0, 0), (27, .getfield 37, 30, 0, 0), (30, .getfield 182, 33, 0, 0), (33, .if_icmp .ge 37, 36, 70, 0), (36, .aload_n 0, 37, 0, 0), (37, .getfield 37, 40, 0, 0), (40, .iload_n 2, 41, 0, 0), (41, .invokevirtual 329, 44, 0, 0), (44, .ifCond .eq 20, 47, 64, 0), (47, .aload_n 0, 48, 0, 0), (48, .getfield 37, 51, 0, 0), (51, .getfield 150, 54, 0, 0), (54, .iload_n 2, 55, 0, 0), (55, .invokestatic 117, 58, 0, 0), (58, .iload_n 1, 59, 0, 0), (59, .if_icmp .ne 5, 62, 64, 0), (62, .iconst 0, 63, 0, 0), (63, .ireturn, 64, 0, 0)],
  [(64, .iinc 2 1, 67, 0, 1), (67, .goto (-42), 70, 25, 0), (70, .iconst 1, 71, 0, 1), (71, .ireturn, 72, 0, 0)]])
def m_X11_takeWhoFits : aM := (yX11_takeWhoFits, cX11_takeWhoFits, 2, (Option.some Jvm.ClassFile.FieldType.int), [], [[(0, .aload_n 0, 1, 0, 0), (1, .invokevirtual 389, 4, 0, 0), (4, .istore_n 1, 5, 0, 0), (5, .aload_n 0, 6, 0, 0), (6, .getfield 10, 9, 0, 0), (9, .iconst 0, 10, 0, 0), (10, .putfield 68, 13, 0, 0), (13, .iload_n 1, 14, 0, 0), (14, .ireturn, 15, 0, 0)]])
def m_X11_whoFits : aM := (yX11_whoFits, cX11_whoFits, 5, (Option.some Jvm.ClassFile.FieldType.int), [], [[(0, .aload_n 0, 1, 0, 0), (1, .getfield 10, 4, 0, 0), (4, .getfield 68, 7, 0, 0), (7, .bipush 40, 9, 0, 40), (9, .if_icmp .gt 15, 12, 24, 0), (12, .aload_n 0, 13, 0, 0), (13, .getfield 10, 16, 0, 0), (16, .getfield 68, 19, 0, 0), (19, .iconst 2, 20, 0, 2), (20, .irem, 21, 0, 0), (21, .ifCond .eq 5, 24, 26, 0), (24, .iconst (-1), 25, 0, (-1)), (25, .ireturn, 26, 0, 0), (26, .aload_n 0, 27, 0, 0), (27, .getfield 37, 30, 0, 0), (30, .getfield 179, 33, 0, 0), (33, .invokestatic 319, 36, 0, 0), (36, .iconst 1, 37, 0, 1), (37, .isub, 38, 0, 0), (38, .istore_n 1, 39, 0, 0), (39, .iconst 0, 40, 0, 0), (40, .istore_n 2, 41, 0, 0), (41, .iload_n 2, 42, 0, 0), (42, .aload_n 0, 43, 0, 0), (43, .getfield 10, 46, 0, 0), (46, .getfield 68, 49, 0, 0), (49, .if_icmp .ge 58, 52, 107, 0), (52, .aload_n 0, 53, 0, 0), (53, .getfield 10, 56, 0, 0), (56, .iload_n 2, 57, 0, 0), (57, .invokevirtual 392, 60, 0, 0), (60, .istore_n 3, 61, 0, 0), (61, .aload_n 0, 62, 0, 0), (62, .getfield 10, 65, 0, 0)],
  [(65, .iload_n 2, 66, 0, 0), (66, .iconst 1, 67, 0, 1), (67, .iadd, 68, 0, 0), (68, .invokevirtual 392, 71, 0, 0), (71, .istore 4, 73, 0, 0), (73, .iload_n 3, 74, 0, 0), (74, .iload 4, 76, 0, 0), (76, .if_icmp .gt 10, 79, 86, 0), (79, .iload 4, 81, 0, 0), (81, .bipush 15, 83, 0, 15), (83, .if_icmp .le 5, 86, 88, 0), (86, .iconst (-1), 87, 0, (-1)), (87, .ireturn, 88, 0, 0), (88, .iload_n 1, 89, 0, 0), (89, .aload_n 0, 90, 0, 0), (90, .getfield 37, 93, 0, 0), (93, .iload_n 3, 94, 0, 0), (94, .iload 4, 96, 0, 0), (96, .invokevirtual 395, 99, 0, 0), (99, .iand, 100, 0, 0), (100, .istore_n 1, 101, 0, 0), (101, .iinc 2 2, 104, 0, 2), (104, .goto (-63), 107, 41, 0), (107, .iload_n 1, 108, 0, 0), (108, .ireturn, 109, 0, 0)]])
def m_X11_kerbToAskFor : aM := (yX11_kerbToAskFor, cX11_kerbToAskFor, 8, (Option.some Jvm.ClassFile.FieldType.int), [], [[(0, .iload_n 1, 1, 0, 0), (1, .invokestatic 261, 4, 0, 0), (4, .istore_n 2, 5, 0, 0), (5, .iload_n 2, 6, 0, 0), (6, .iconst 2, 7, 0, 2), (7, .if_icmp .ge 5, 10, 12, 0), (10, .iconst (-1), 11, 0, (-1)), (11, .ireturn, 12, 0, 0), (12, .iconst (-1), 13, 0, (-1)), (13, .istore_n 3, 14, 0, 0), (14, .iload_n 2, 15, 0, 0), (15, .iconst 1, 16, 0, 1), (16, .iadd, 17, 0, 0), (17, .istore 4, 19, 0, 0), (19, .iconst 0, 20, 0, 0), (20, .istore 5, 22, 0, 0), (22, .iload 5, 24, 0, 0), (24, .bipush 15, 26, 0, 15), (26, .if_icmp .ge 51, 29, 77, 0), (29, .iload_n 1, 30, 0, 0), (30, .aload_n 0, 31, 0, 0), (31, .getfield 37, 34, 0, 0), (34, .iconst 0, 35, 0, 0), (35, .iload 5, 37, 0, 0), (37, .invokevirtual 395, 40, 0, 0), (40, .iand, 41, 0, 0), (41, .invokestatic 261, 44, 0, 0), (44, .istore 6, 46, 0, 0), (46, .iload 6, 48, 0, 0), (48, .iload_n 2, 49, 0, 0), (49, .iload 6, 51, 0, 0), (51, .isub, 52, 0, 0), (52, .invokestatic 290, 55, 0, 0), (55, .istore 7, 57, 0, 0), (57, .iload 7, 59, 0, 0), (59, .iload 4, 61, 0, 0), (61, .if_icmp .ge 10, 64, 71, 0)],
  [(64, .iload 5, 66, 0, 0), (66, .istore_n 3, 67, 0, 0), (67, .iload 7, 69, 0, 0), (69, .istore 4, 71, 0, 0), (71, .iinc 5 1, 74, 0, 1), (74, .goto (-52), 77, 22, 0), (77, .iload_n 3, 78, 0, 0), (78, .ireturn, 79, 0, 0)]])
def m_X11_needsOf : aM := (yX11_needsOf, cX11_needsOf, 2, (Option.some Jvm.ClassFile.FieldType.int), [], [[(0, .iload_n 0, 1, 0, 0), (1, .ifCond .ne 5, 4, 6, 0), (4, .iconst 0, 5, 0, 0), (5, .ireturn, 6, 0, 0), (6, .iload_n 1, 7, 0, 0), (7, .ifCond .le 13, 10, 20, 0), (10, .iload_n 0, 11, 0, 0), (11, .iload_n 1, 12, 0, 0), (12, .iadd, 13, 0, 0), (13, .iconst 1, 14, 0, 1), (14, .isub, 15, 0, 0), (15, .iload_n 1, 16, 0, 0), (16, .idiv, 17, 0, 0), (17, .goto 6, 20, 23, 0), (20, .sipush 1000, 23, 0, 1000), (23, .ireturn, 24, 0, 0)]])
def m_X11_at : aM := (yX11_at, cX11_at, 2, (Option.some Jvm.ClassFile.FieldType.int), [], [[(0, .iload_n 1, 1, 0, 0), (1, .ifCond .lt 15, 4, 16, 0), (4, .iload_n 1, 5, 0, 0), (5, .aload_n 0, 6, 0, 0), (6, .arraylength, 7, 0, 0), (7, .if_icmp .ge 9, 10, 16, 0), (10, .aload_n 0, 11, 0, 0), (11, .iload_n 1, 12, 0, 0), (12, .iaload, 13, 0, 0), (13, .goto 4, 16, 17, 0), (16, .iconst (-1), 17, 0, (-1)), (17, .ireturn, 18, 0, 0)]])
def m_X11_setAt : aM := (yX11_setAt, cX11_setAt, 3, (Option.none : Option Jvm.ClassFile.FieldType), [], [[(0, .iload_n 1, 1, 0, 0), (1, .ifCond .lt 13, 4, 14, 0), (4, .iload_n 1, 5, 0, 0), (5, .aload_n 0, 6, 0, 0), (6, .arraylength, 7, 0, 0), (7, .if_icmp .ge 7, 10, 14, 0), (10, .aload_n 0, 11, 0, 0), (11, .iload_n 1, 12, 0, 0), (12, .iload_n 2, 13, 0, 0), (13, .iastore, 14, 0, 0), (14, .return_, 15, 0, 0)]])
def m_X11_copyRow : aM := (yX11_copyRow, cX11_copyRow, 2, (Option.none : Option Jvm.ClassFile.FieldType), [], [[(0, .aload_n 0, 1, 0, 0), (1, .iconst 0, 2, 0, 0), (2, .aload_n 1, 3, 0, 0), (3, .iconst 0, 4, 0, 0), (4, .aload_n 0, 5, 0, 0), (5, .arraylength, 6, 0, 0), (6, .aload_n 1, 7, 0, 0), (7, .arraylength, 8, 0, 0), (8, .invokestatic 350, 11, 0, 0), (11, .invokestatic 398, 14, 0, 0), (14, .return_, 15, 0, 0)]])
def m_X11_bit : aM := (yX11_bit, cX11_bit, 1, (Option.some Jvm.ClassFile.FieldType.int), [], [[(0, .iload_n 0, 1, 0, 0), (1, .ifCond .lt 15, 4, 16, 0), (4, .iload_n 0, 5, 0, 0), (5, .bipush 31, 7, 0, 31), (7, .if_icmp .ge 9, 10, 16, 0), (10, .iconst 1, 11, 0, 1), (11, .iload_n 0, 12, 0, 0), (12, .ishl, 13, 0, 0), (13, .goto 4, 16, 17, 0), (16, .iconst 0, 17, 0, 0), (17, .ireturn, 18, 0, 0)]])
def m_X11_has : aM := (yX11_has, cX11_has, 2, (Option.some Jvm.ClassFile.FieldType.boolean), [], [[(0, .iload_n 0, 1, 0, 0), (1, .iload_n 1, 2, 0, 0), (2, .invokestatic 319, 5, 0, 0), (5, .iand, 6, 0, 0), (6, .ifCond .eq 7, 9, 13, 0), (9, .iconst 1, 10, 0, 1), (10, .goto 4, 13, 14, 0), (13, .iconst 0, 14, 0, 0), (14, .ireturn, 15, 0, 0)]])
def m_X11_sumOver : aM := (yX11_sumOver, cX11_sumOver, 4, (Option.some Jvm.ClassFile.FieldType.int), [], [[(0, .iconst 0, 1, 0, 0), (1, .istore_n 2, 2, 0, 0), (2, .iconst 0, 3, 0, 0), (3, .istore_n 3, 4, 0, 0), (4, .iload_n 3, 5, 0, 0), (5, .aload_n 0, 6, 0, 0), (6, .arraylength, 7, 0, 0), (7, .if_icmp .ge 23, 10, 30, 0), (10, .iload_n 1, 11, 0, 0), (11, .iload_n 3, 12, 0, 0), (12, .ishr, 13, 0, 0), (13, .iconst 1, 14, 0, 1), (14, .iand, 15, 0, 0), (15, .ifCond .eq 9, 18, 24, 0), (18, .iload_n 2, 19, 0, 0), (19, .aload_n 0, 20, 0, 0), (20, .iload_n 3, 21, 0, 0), (21, .iaload, 22, 0, 0), (22, .iadd, 23, 0, 0), (23, .istore_n 2, 24, 0, 0), (24, .iinc 3 1, 27, 0, 1), (27, .goto (-23), 30, 4, 0), (30, .iload_n 2, 31, 0, 0), (31, .ireturn, 32, 0, 0)]])
theorem ok_X0_init : okM m_X0_init = true := okM_q (by decide +kernel)
theorem ok_X0_mostCalled : okM m_X0_mostCalled = true := okM_q (by decide +kernel)
theorem ok_X0_canBeCalledTogether : okM m_X0_canBeCalledTogether = true := okM_q (by decide +kernel)
theorem ok_X0_leastShame : okM m_X0_leastShame = true := okM_q (by decide +kernel)
theorem ok_X0_leansWithin : okM m_X0_leansWithin = true := okM_q (by decide +kernel)
theorem ok_X0_firstSwap : okM m_X0_firstSwap = true := okM_q (by decide +kernel)
theorem ok_X0_gainOf : okM m_X0_gainOf = true := okM_q (by decide +kernel)
theorem ok_X0_restingChoices : okM m_X0_restingChoices = true := okM_q (by decide +kernel)
theorem ok_X0_isBest : okM m_X0_isBest = true := okM_q (by decide +kernel)
theorem ok_X0_payOf : okM m_X0_payOf = true := okM_q (by decide +kernel)
theorem ok_X0_oddsOf : okM m_X0_oddsOf = true := okM_q (by decide +kernel)
theorem ok_X0_power : okM m_X0_power = true := okM_q (by decide +kernel)
theorem ok_X0_daysToLeaveFree : okM m_X0_daysToLeaveFree = true := okM_q (by decide +kernel)
theorem ok_X1_init : okM m_X1_init = true := okM_q (by decide +kernel)
theorem ok_X1_copyFrom : okM m_X1_copyFrom = true := okM_q (by decide +kernel)
theorem ok_X1_add : okM m_X1_add = true := okM_q (by decide +kernel)
theorem ok_X1_valueOf : okM m_X1_valueOf = true := okM_q (by decide +kernel)
theorem ok_X1_rowsOf : okM m_X1_rowsOf = true := okM_q (by decide +kernel)
theorem ok_X1_latestMonthOf : okM m_X1_latestMonthOf = true := okM_q (by decide +kernel)
theorem ok_X2_init : okM m_X2_init = true := okM_q (by decide +kernel)
theorem ok_X2_copyFrom : okM m_X2_copyFrom = true := okM_q (by decide +kernel)
theorem ok_X2_clear : okM m_X2_clear = true := okM_q (by decide +kernel)
theorem ok_X2_openLine : okM m_X2_openLine = true := okM_q (by decide +kernel)
theorem ok_X2_emit : okM m_X2_emit = true := okM_q (by decide +kernel)
theorem ok_X2_closeLine : okM m_X2_closeLine = true := okM_q (by decide +kernel)
theorem ok_X2_growthOf : okM m_X2_growthOf = true := okM_q (by decide +kernel)
theorem ok_X2_shameOf : okM m_X2_shameOf = true := okM_q (by decide +kernel)
theorem ok_X2_shameOfSet : okM m_X2_shameOfSet = true := okM_q (by decide +kernel)
theorem ok_X2_takeParts : okM m_X2_takeParts = true := okM_q (by decide +kernel)
theorem ok_X2_setPart : okM m_X2_setPart = true := okM_q (by decide +kernel)
theorem ok_X2_sumOfLines : okM m_X2_sumOfLines = true := okM_q (by decide +kernel)
theorem ok_X2_holds : okM m_X2_holds = true := okM_q (by decide +kernel)
theorem ok_X2_joined : okM m_X2_joined = true := okM_q (by decide +kernel)
theorem ok_X3_init : okM m_X3_init = true := okM_q (by decide +kernel)
theorem ok_X3_readLine : okM m_X3_readLine = true := okM_q (by decide +kernel)
theorem ok_X3_takeKind : okM m_X3_takeKind = true := okM_q (by decide +kernel)
theorem ok_X3_readCondition : okM m_X3_readCondition = true := okM_q (by decide +kernel)
theorem ok_X3_joinAtHand : okM m_X3_joinAtHand = true := okM_q (by decide +kernel)
theorem ok_X3_openDeeper : okM m_X3_openDeeper = true := okM_q (by decide +kernel)
theorem ok_X3_closeDeeper : okM m_X3_closeDeeper = true := okM_q (by decide +kernel)
theorem ok_X3_hold : okM m_X3_hold = true := okM_q (by decide +kernel)
theorem ok_X3_emitHeld : okM m_X3_emitHeld = true := okM_q (by decide +kernel)
theorem ok_X3_readAtom : okM m_X3_readAtom = true := okM_q (by decide +kernel)
theorem ok_X3_readSum : okM m_X3_readSum = true := okM_q (by decide +kernel)
theorem ok_X3_partAtHand : okM m_X3_partAtHand = true := okM_q (by decide +kernel)
theorem ok_X4_chainOf : okM m_X4_chainOf = true := okM_q (by decide +kernel)
theorem ok_X4_leaningOn : okM m_X4_leaningOn = true := okM_q (by decide +kernel)
theorem ok_X4_ringBits : okM m_X4_ringBits = true := okM_q (by decide +kernel)
theorem ok_X4_hoursTill : okM m_X4_hoursTill = true := okM_q (by decide +kernel)
theorem ok_X4_hoursTillYoung : okM m_X4_hoursTillYoung = true := okM_q (by decide +kernel)
theorem ok_X4_hoursOf : okM m_X4_hoursOf = true := okM_q (by decide +kernel)
theorem ok_X5_init : okM m_X5_init = true := okM_q (by decide +kernel)
theorem ok_X5_copyFrom : okM m_X5_copyFrom = true := okM_q (by decide +kernel)
theorem ok_X5_copyAll : okM m_X5_copyAll = true := okM_q (by decide +kernel)
theorem ok_X5_addPerson : okM m_X5_addPerson = true := okM_q (by decide +kernel)
theorem ok_X5_addDuty : okM m_X5_addDuty = true := okM_q (by decide +kernel)
theorem ok_X5_isWaiting : okM m_X5_isWaiting = true := okM_q (by decide +kernel)
theorem ok_X5_leansFreely : okM m_X5_leansFreely = true := okM_q (by decide +kernel)
theorem ok_X5_isReady : okM m_X5_isReady = true := okM_q (by decide +kernel)
theorem ok_X5_areAlike : okM m_X5_areAlike = true := okM_q (by decide +kernel)
theorem ok_X5_bitsIn : okM m_X5_bitsIn = true := okM_q (by decide +kernel)
theorem ok_X5_readyBits : okM m_X5_readyBits = true := okM_q (by decide +kernel)
theorem ok_X5_olderThan : okM m_X5_olderThan = true := okM_q (by decide +kernel)
theorem ok_X5_ownedBy : okM m_X5_ownedBy = true := okM_q (by decide +kernel)
theorem ok_X5_loadOf : okM m_X5_loadOf = true := okM_q (by decide +kernel)
theorem ok_X5_standingBetween : okM m_X5_standingBetween = true := okM_q (by decide +kernel)
theorem ok_X5_placeOf : okM m_X5_placeOf = true := okM_q (by decide +kernel)
theorem ok_X5_dutyAt : okM m_X5_dutyAt = true := okM_q (by decide +kernel)
theorem ok_X5_passesOf : okM m_X5_passesOf = true := okM_q (by decide +kernel)
theorem ok_X5_canBits : okM m_X5_canBits = true := okM_q (by decide +kernel)
theorem ok_X5_kerbAt : okM m_X5_kerbAt = true := okM_q (by decide +kernel)
theorem ok_X5_finish : okM m_X5_finish = true := okM_q (by decide +kernel)
theorem ok_X5_growOlder : okM m_X5_growOlder = true := okM_q (by decide +kernel)
theorem ok_X5_passDay : okM m_X5_passDay = true := okM_q (by decide +kernel)
theorem ok_X5_daysTillDone : okM m_X5_daysTillDone = true := okM_q (by decide +kernel)
theorem ok_X5_daysTillNoneWaits : okM m_X5_daysTillNoneWaits = true := okM_q (by decide +kernel)
theorem ok_X5_draw : okM m_X5_draw = true := okM_q (by decide +kernel)
theorem ok_X5_work : okM m_X5_work = true := okM_q (by decide +kernel)
theorem ok_X5_passMonth : okM m_X5_passMonth = true := okM_q (by decide +kernel)
theorem ok_X6_init : okM m_X6_init = true := okM_q (by decide +kernel)
theorem ok_X6_readLine : okM m_X6_readLine = true := okM_q (by decide +kernel)
theorem ok_X6_readPerson : okM m_X6_readPerson = true := okM_q (by decide +kernel)
theorem ok_X6_readDuty : okM m_X6_readDuty = true := okM_q (by decide +kernel)
theorem ok_X6_readForgotten : okM m_X6_readForgotten = true := okM_q (by decide +kernel)
theorem ok_X6_readSetting : okM m_X6_readSetting = true := okM_q (by decide +kernel)
theorem ok_X6_readNumberOf : okM m_X6_readNumberOf = true := okM_q (by decide +kernel)
theorem ok_X7_init : okM m_X7_init = true := okM_q (by decide +kernel)
theorem ok_X7_append : okM m_X7_append = true := okM_q (by decide +kernel)
theorem ok_X7_byteAt : okM m_X7_byteAt = true := okM_q (by decide +kernel)
theorem ok_X8_init : okM m_X8_init = true := okM_q (by decide +kernel)
theorem ok_X8_readLines : okM m_X8_readLines = true := okM_q (by decide +kernel)
theorem ok_X9_init : okM m_X9_init = true := okM_q (by decide +kernel)
theorem ok_X9_scan : okM m_X9_scan = true := okM_q (by decide +kernel)
theorem ok_X9_kindOf : okM m_X9_kindOf = true := okM_q (by decide +kernel)
theorem ok_X9_open : okM m_X9_open = true := okM_q (by decide +kernel)
theorem ok_X9_valueOf : okM m_X9_valueOf = true := okM_q (by decide +kernel)
theorem ok_X9_wordOf : okM m_X9_wordOf = true := okM_q (by decide +kernel)
theorem ok_X9_isText : okM m_X9_isText = true := okM_q (by decide +kernel)
theorem ok_X9_numberOf : okM m_X9_numberOf = true := okM_q (by decide +kernel)
theorem ok_X9_next : okM m_X9_next = true := okM_q (by decide +kernel)
theorem ok_X9_isEnd : okM m_X9_isEnd = true := okM_q (by decide +kernel)
theorem ok_X9_isSign : okM m_X9_isSign = true := okM_q (by decide +kernel)
theorem ok_X9_takeSign : okM m_X9_takeSign = true := okM_q (by decide +kernel)
theorem ok_X9_takeWord : okM m_X9_takeWord = true := okM_q (by decide +kernel)
theorem ok_X9_takeNumber : okM m_X9_takeNumber = true := okM_q (by decide +kernel)
theorem ok_X11_init : okM m_X11_init = true := okM_q (by decide +kernel)
theorem ok_X11_feed : okM m_X11_feed = true := okM_q (by decide +kernel)
theorem ok_X11_end : okM m_X11_end = true := okM_q (by decide +kernel)
theorem ok_X11_street : okM m_X11_street = true := okM_q (by decide +kernel)
theorem ok_X11_law : okM m_X11_law = true := okM_q (by decide +kernel)
theorem ok_X11_fault : okM m_X11_fault = true := okM_q (by decide +kernel)
theorem ok_X11_person : okM m_X11_person = true := okM_q (by decide +kernel)
theorem ok_X11_duty : okM m_X11_duty = true := okM_q (by decide +kernel)
theorem ok_X11_count : okM m_X11_count = true := okM_q (by decide +kernel)
theorem ok_X11_call : okM m_X11_call = true := okM_q (by decide +kernel)
theorem ok_X11_put : okM m_X11_put = true := okM_q (by decide +kernel)
theorem ok_X11_forget : okM m_X11_forget = true := okM_q (by decide +kernel)
theorem ok_X11_recall : okM m_X11_recall = true := okM_q (by decide +kernel)
theorem ok_X11_hand : okM m_X11_hand = true := okM_q (by decide +kernel)
theorem ok_X11_lean : okM m_X11_lean = true := okM_q (by decide +kernel)
theorem ok_X11_free : okM m_X11_free = true := okM_q (by decide +kernel)
theorem ok_X11_days : okM m_X11_days = true := okM_q (by decide +kernel)
theorem ok_X11_parade : okM m_X11_parade = true := okM_q (by decide +kernel)
theorem ok_X11_can : okM m_X11_can = true := okM_q (by decide +kernel)
theorem ok_X11_greets : okM m_X11_greets = true := okM_q (by decide +kernel)
theorem ok_X11_where : okM m_X11_where = true := okM_q (by decide +kernel)
theorem ok_X11_crowd : okM m_X11_crowd = true := okM_q (by decide +kernel)
theorem ok_X11_most : okM m_X11_most = true := okM_q (by decide +kernel)
theorem ok_X11_does : okM m_X11_does = true := okM_q (by decide +kernel)
theorem ok_X11_soon : okM m_X11_soon = true := okM_q (by decide +kernel)
theorem ok_X11_longest : okM m_X11_longest = true := okM_q (by decide +kernel)
theorem ok_X11_ring : okM m_X11_ring = true := okM_q (by decide +kernel)
theorem ok_X11_before : okM m_X11_before = true := okM_q (by decide +kernel)
theorem ok_X11_after : okM m_X11_after = true := okM_q (by decide +kernel)
theorem ok_X11_depth : okM m_X11_depth = true := okM_q (by decide +kernel)
theorem ok_X11_young : okM m_X11_young = true := okM_q (by decide +kernel)
theorem ok_X11_older : okM m_X11_older = true := okM_q (by decide +kernel)
theorem ok_X11_whose : okM m_X11_whose = true := okM_q (by decide +kernel)
theorem ok_X11_ask : okM m_X11_ask = true := okM_q (by decide +kernel)
theorem ok_X11_gap : okM m_X11_gap = true := okM_q (by decide +kernel)
theorem ok_X11_lost : okM m_X11_lost = true := okM_q (by decide +kernel)
theorem ok_X11_missed : okM m_X11_missed = true := okM_q (by decide +kernel)
theorem ok_X11_swap : okM m_X11_swap = true := okM_q (by decide +kernel)
theorem ok_X11_rests : okM m_X11_rests = true := okM_q (by decide +kernel)
theorem ok_X11_sponsor : okM m_X11_sponsor = true := okM_q (by decide +kernel)
theorem ok_X11_idle : okM m_X11_idle = true := okM_q (by decide +kernel)
theorem ok_X11_worst : okM m_X11_worst = true := okM_q (by decide +kernel)
theorem ok_X11_alike : okM m_X11_alike = true := okM_q (by decide +kernel)
theorem ok_X11_odds : okM m_X11_odds = true := okM_q (by decide +kernel)
theorem ok_X11_spare : okM m_X11_spare = true := okM_q (by decide +kernel)
theorem ok_X11_done : okM m_X11_done = true := okM_q (by decide +kernel)
theorem ok_X11_all : okM m_X11_all = true := okM_q (by decide +kernel)
theorem ok_X11_help : okM m_X11_help = true := okM_q (by decide +kernel)
theorem ok_X11_crux : okM m_X11_crux = true := okM_q (by decide +kernel)
theorem ok_X11_sick : okM m_X11_sick = true := okM_q (by decide +kernel)
theorem ok_X11_ahead : okM m_X11_ahead = true := okM_q (by decide +kernel)
theorem ok_X11_trial : okM m_X11_trial = true := okM_q (by decide +kernel)
theorem ok_X11_span : okM m_X11_span = true := okM_q (by decide +kernel)
theorem ok_X11_led : okM m_X11_led = true := okM_q (by decide +kernel)
theorem ok_X11_log : okM m_X11_log = true := okM_q (by decide +kernel)
theorem ok_X11_seed : okM m_X11_seed = true := okM_q (by decide +kernel)
theorem ok_X11_undo : okM m_X11_undo = true := okM_q (by decide +kernel)
theorem ok_X11_image : okM m_X11_image = true := okM_q (by decide +kernel)
theorem ok_X11_back : okM m_X11_back = true := okM_q (by decide +kernel)
theorem ok_X11_needPerson : okM m_X11_needPerson = true := okM_q (by decide +kernel)
theorem ok_X11_needDuty : okM m_X11_needDuty = true := okM_q (by decide +kernel)
theorem ok_X11_needKerb : okM m_X11_needKerb = true := okM_q (by decide +kernel)
theorem ok_X11_needNumber : okM m_X11_needNumber = true := okM_q (by decide +kernel)
theorem ok_X11_needTwo : okM m_X11_needTwo = true := okM_q (by decide +kernel)
theorem ok_X11_needState : okM m_X11_needState = true := okM_q (by decide +kernel)
theorem ok_X11_pastAt : okM m_X11_pastAt = true := okM_q (by decide +kernel)
theorem ok_X11_rememberAct : okM m_X11_rememberAct = true := okM_q (by decide +kernel)
theorem ok_X11_letParadeGoBy : okM m_X11_letParadeGoBy = true := okM_q (by decide +kernel)
theorem ok_X11_shameTriedOut : okM m_X11_shameTriedOut = true := okM_q (by decide +kernel)
theorem ok_X11_shameOfWaiting : okM m_X11_shameOfWaiting = true := okM_q (by decide +kernel)
theorem ok_X11_shareOf : okM m_X11_shareOf = true := okM_q (by decide +kernel)
theorem ok_X11_isGap : okM m_X11_isGap = true := okM_q (by decide +kernel)
theorem ok_X11_takeWhoFits : okM m_X11_takeWhoFits = true := okM_q (by decide +kernel)
theorem ok_X11_whoFits : okM m_X11_whoFits = true := okM_q (by decide +kernel)
theorem ok_X11_kerbToAskFor : okM m_X11_kerbToAskFor = true := okM_q (by decide +kernel)
theorem ok_X11_needsOf : okM m_X11_needsOf = true := okM_q (by decide +kernel)
theorem ok_X11_at : okM m_X11_at = true := okM_q (by decide +kernel)
theorem ok_X11_setAt : okM m_X11_setAt = true := okM_q (by decide +kernel)
theorem ok_X11_copyRow : okM m_X11_copyRow = true := okM_q (by decide +kernel)
theorem ok_X11_bit : okM m_X11_bit = true := okM_q (by decide +kernel)
theorem ok_X11_has : okM m_X11_has = true := okM_q (by decide +kernel)
theorem ok_X11_sumOver : okM m_X11_sumOver = true := okM_q (by decide +kernel)
end
