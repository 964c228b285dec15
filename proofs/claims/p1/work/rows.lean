section
-- ===== PART A: goes FIRST, ahead of the names: the tables' words, and 'selects' of the private methods out of them =====
/-- a private method of a class that the tables say can be made, by its rows of tables_1 -/
def lw_okq (q : MethodName × Nat) : Prop := (q.1.cls ≠ "java/lang/invoke/MethodHandle" ∧ q.1.cls ≠ "java/lang/invoke/VarHandle") ∧ Cond.instantiable q.1.cls q.2 ∈ tables_1 ∧ Cond.privateMethod q.1 ∈ tables_1 ∧ Cond.instanceMethod q.1 ∈ tables_1
theorem lw_p0 : lw_okq (⟨"PutOffParade", "shameOfWaiting", "(LPutOffParade$Street;)I"⟩, 14) := ⟨⟨by decide +kernel, by decide +kernel⟩, List.mem_of_getElem? (i := 31) (by decide +kernel), List.mem_of_getElem? (i := 407) (by decide +kernel), List.mem_of_getElem? (i := 408) (by decide +kernel)⟩
theorem lw_p1 : lw_okq (⟨"PutOffParade$Law", "takeParts", "(LPutOffParade$Street;I)V"⟩, 9) := ⟨⟨by decide +kernel, by decide +kernel⟩, List.mem_of_getElem? (i := 249) (by decide +kernel), List.mem_of_getElem? (i := 423) (by decide +kernel), List.mem_of_getElem? (i := 424) (by decide +kernel)⟩
theorem lw_p2 : lw_okq (⟨"PutOffParade$Law", "setPart", "(II)V"⟩, 9) := ⟨⟨by decide +kernel, by decide +kernel⟩, List.mem_of_getElem? (i := 249) (by decide +kernel), List.mem_of_getElem? (i := 428) (by decide +kernel), List.mem_of_getElem? (i := 429) (by decide +kernel)⟩
theorem lw_p3 : lw_okq (⟨"PutOffParade$Law", "sumOfLines", "(I)I"⟩, 9) := ⟨⟨by decide +kernel, by decide +kernel⟩, List.mem_of_getElem? (i := 249) (by decide +kernel), List.mem_of_getElem? (i := 436) (by decide +kernel), List.mem_of_getElem? (i := 437) (by decide +kernel)⟩
theorem lw_p4 : lw_okq (⟨"PutOffParade$Law", "holds", "(I)Z"⟩, 9) := ⟨⟨by decide +kernel, by decide +kernel⟩, List.mem_of_getElem? (i := 249) (by decide +kernel), List.mem_of_getElem? (i := 440) (by decide +kernel), List.mem_of_getElem? (i := 441) (by decide +kernel)⟩
theorem lw_p5 : lw_okq (⟨"PutOffParade$Choosing", "canBeCalledTogether", "(LPutOffParade$Street;I)Z"⟩, 2) := ⟨⟨by decide +kernel, by decide +kernel⟩, List.mem_of_getElem? (i := 304) (by decide +kernel), List.mem_of_getElem? (i := 497) (by decide +kernel), List.mem_of_getElem? (i := 498) (by decide +kernel)⟩
theorem lw_p6 : lw_okq (⟨"PutOffParade", "isGap", "(I)Z"⟩, 14) := ⟨⟨by decide +kernel, by decide +kernel⟩, List.mem_of_getElem? (i := 31) (by decide +kernel), List.mem_of_getElem? (i := 538) (by decide +kernel), List.mem_of_getElem? (i := 539) (by decide +kernel)⟩
theorem lw_p7 : lw_okq (⟨"PutOffParade$Street", "draw", "()I"⟩, 18) := ⟨⟨by decide +kernel, by decide +kernel⟩, List.mem_of_getElem? (i := 109) (by decide +kernel), List.mem_of_getElem? (i := 608) (by decide +kernel), List.mem_of_getElem? (i := 609) (by decide +kernel)⟩
theorem lw_p8 : lw_okq (⟨"PutOffParade$Street", "work", "(II)I"⟩, 18) := ⟨⟨by decide +kernel, by decide +kernel⟩, List.mem_of_getElem? (i := 109) (by decide +kernel), List.mem_of_getElem? (i := 613) (by decide +kernel), List.mem_of_getElem? (i := 614) (by decide +kernel)⟩
theorem lw_p9 : lw_okq (⟨"PutOffParade$Street", "passMonth", "(LPutOffParade$Law;)V"⟩, 18) := ⟨⟨by decide +kernel, by decide +kernel⟩, List.mem_of_getElem? (i := 109) (by decide +kernel), List.mem_of_getElem? (i := 624) (by decide +kernel), List.mem_of_getElem? (i := 625) (by decide +kernel)⟩
theorem lw_p10 : lw_okq (⟨"PutOffParade", "pastAt", "(I)LPutOffParade$Street;"⟩, 14) := ⟨⟨by decide +kernel, by decide +kernel⟩, List.mem_of_getElem? (i := 31) (by decide +kernel), List.mem_of_getElem? (i := 654) (by decide +kernel), List.mem_of_getElem? (i := 655) (by decide +kernel)⟩
theorem lw_p11 : lw_okq (⟨"PutOffParade$Tokens", "open", "(II)V"⟩, 10) := ⟨⟨by decide +kernel, by decide +kernel⟩, List.mem_of_getElem? (i := 64) (by decide +kernel), List.mem_of_getElem? (i := 707) (by decide +kernel), List.mem_of_getElem? (i := 708) (by decide +kernel)⟩
theorem lw_p12 : lw_okq (⟨"PutOffParade$Tokens", "valueOf", "(LPutOffParade$Tape;I)I"⟩, 10) := ⟨⟨by decide +kernel, by decide +kernel⟩, List.mem_of_getElem? (i := 64) (by decide +kernel), List.mem_of_getElem? (i := 712) (by decide +kernel), List.mem_of_getElem? (i := 713) (by decide +kernel)⟩
theorem lw_p13 : lw_okq (⟨"PutOffParade$Tokens", "wordOf", "(LPutOffParade$Tape;I)I"⟩, 10) := ⟨⟨by decide +kernel, by decide +kernel⟩, List.mem_of_getElem? (i := 64) (by decide +kernel), List.mem_of_getElem? (i := 717) (by decide +kernel), List.mem_of_getElem? (i := 718) (by decide +kernel)⟩
theorem lw_p14 : lw_okq (⟨"PutOffParade$Tokens", "isText", "(LPutOffParade$Tape;ILjava/lang/String;)Z"⟩, 10) := ⟨⟨by decide +kernel, by decide +kernel⟩, List.mem_of_getElem? (i := 64) (by decide +kernel), List.mem_of_getElem? (i := 723) (by decide +kernel), List.mem_of_getElem? (i := 724) (by decide +kernel)⟩
theorem lw_p15 : lw_okq (⟨"PutOffParade$Tokens", "numberOf", "(LPutOffParade$Tape;I)I"⟩, 10) := ⟨⟨by decide +kernel, by decide +kernel⟩, List.mem_of_getElem? (i := 64) (by decide +kernel), List.mem_of_getElem? (i := 775) (by decide +kernel), List.mem_of_getElem? (i := 776) (by decide +kernel)⟩
def lw_privs_1 : List (MethodName × Nat) := [(⟨"PutOffParade", "shameOfWaiting", "(LPutOffParade$Street;)I"⟩, 14), (⟨"PutOffParade$Law", "takeParts", "(LPutOffParade$Street;I)V"⟩, 9), (⟨"PutOffParade$Law", "setPart", "(II)V"⟩, 9), (⟨"PutOffParade$Law", "sumOfLines", "(I)I"⟩, 9), (⟨"PutOffParade$Law", "holds", "(I)Z"⟩, 9), (⟨"PutOffParade$Choosing", "canBeCalledTogether", "(LPutOffParade$Street;I)Z"⟩, 2), (⟨"PutOffParade", "isGap", "(I)Z"⟩, 14), (⟨"PutOffParade$Street", "draw", "()I"⟩, 18), (⟨"PutOffParade$Street", "work", "(II)I"⟩, 18), (⟨"PutOffParade$Street", "passMonth", "(LPutOffParade$Law;)V"⟩, 18), (⟨"PutOffParade", "pastAt", "(I)LPutOffParade$Street;"⟩, 14), (⟨"PutOffParade$Tokens", "open", "(II)V"⟩, 10), (⟨"PutOffParade$Tokens", "valueOf", "(LPutOffParade$Tape;I)I"⟩, 10), (⟨"PutOffParade$Tokens", "wordOf", "(LPutOffParade$Tape;I)I"⟩, 10), (⟨"PutOffParade$Tokens", "isText", "(LPutOffParade$Tape;ILjava/lang/String;)Z"⟩, 10), (⟨"PutOffParade$Tokens", "numberOf", "(LPutOffParade$Tape;I)I"⟩, 10)]
theorem lw_r1 : ∀ q ∈ lw_privs_1, lw_okq q := List.forall_mem_cons.mpr ⟨lw_p0, List.forall_mem_cons.mpr ⟨lw_p1, List.forall_mem_cons.mpr ⟨lw_p2, List.forall_mem_cons.mpr ⟨lw_p3, List.forall_mem_cons.mpr ⟨lw_p4, List.forall_mem_cons.mpr ⟨lw_p5, List.forall_mem_cons.mpr ⟨lw_p6, List.forall_mem_cons.mpr ⟨lw_p7, List.forall_mem_cons.mpr ⟨lw_p8, List.forall_mem_cons.mpr ⟨lw_p9, List.forall_mem_cons.mpr ⟨lw_p10, List.forall_mem_cons.mpr ⟨lw_p11, List.forall_mem_cons.mpr ⟨lw_p12, List.forall_mem_cons.mpr ⟨lw_p13, List.forall_mem_cons.mpr ⟨lw_p14, List.forall_mem_cons.mpr ⟨lw_p15, fun _ h => absurd h List.not_mem_nil⟩⟩⟩⟩⟩⟩⟩⟩⟩⟩⟩⟩⟩⟩⟩⟩
theorem lw_p16 : lw_okq (⟨"PutOffParade$LawReader", "takeKind", "()I"⟩, 6) := ⟨⟨by decide +kernel, by decide +kernel⟩, List.mem_of_getElem? (i := 243) (by decide +kernel), List.mem_of_getElem? (i := 794) (by decide +kernel), List.mem_of_getElem? (i := 795) (by decide +kernel)⟩
theorem lw_p17 : lw_okq (⟨"PutOffParade$LawReader", "readCondition", "()Z"⟩, 6) := ⟨⟨by decide +kernel, by decide +kernel⟩, List.mem_of_getElem? (i := 243) (by decide +kernel), List.mem_of_getElem? (i := 818) (by decide +kernel), List.mem_of_getElem? (i := 819) (by decide +kernel)⟩
theorem lw_p18 : lw_okq (⟨"PutOffParade$LawReader", "openDeeper", "()Z"⟩, 6) := ⟨⟨by decide +kernel, by decide +kernel⟩, List.mem_of_getElem? (i := 243) (by decide +kernel), List.mem_of_getElem? (i := 822) (by decide +kernel), List.mem_of_getElem? (i := 823) (by decide +kernel)⟩
theorem lw_p19 : lw_okq (⟨"PutOffParade$LawReader", "hold", "(I)V"⟩, 6) := ⟨⟨by decide +kernel, by decide +kernel⟩, List.mem_of_getElem? (i := 243) (by decide +kernel), List.mem_of_getElem? (i := 832) (by decide +kernel), List.mem_of_getElem? (i := 833) (by decide +kernel)⟩
theorem lw_p20 : lw_okq (⟨"PutOffParade$LawReader", "readAtom", "()Z"⟩, 6) := ⟨⟨by decide +kernel, by decide +kernel⟩, List.mem_of_getElem? (i := 243) (by decide +kernel), List.mem_of_getElem? (i := 838) (by decide +kernel), List.mem_of_getElem? (i := 839) (by decide +kernel)⟩
theorem lw_p21 : lw_okq (⟨"PutOffParade$LawReader", "readSum", "()Z"⟩, 6) := ⟨⟨by decide +kernel, by decide +kernel⟩, List.mem_of_getElem? (i := 243) (by decide +kernel), List.mem_of_getElem? (i := 850) (by decide +kernel), List.mem_of_getElem? (i := 851) (by decide +kernel)⟩
theorem lw_p22 : lw_okq (⟨"PutOffParade$LawReader", "partAtHand", "()I"⟩, 6) := ⟨⟨by decide +kernel, by decide +kernel⟩, List.mem_of_getElem? (i := 243) (by decide +kernel), List.mem_of_getElem? (i := 854) (by decide +kernel), List.mem_of_getElem? (i := 855) (by decide +kernel)⟩
theorem lw_p23 : lw_okq (⟨"PutOffParade$LawReader", "closeDeeper", "()V"⟩, 6) := ⟨⟨by decide +kernel, by decide +kernel⟩, List.mem_of_getElem? (i := 243) (by decide +kernel), List.mem_of_getElem? (i := 863) (by decide +kernel), List.mem_of_getElem? (i := 864) (by decide +kernel)⟩
theorem lw_p24 : lw_okq (⟨"PutOffParade$LawReader", "emitHeld", "(I)V"⟩, 6) := ⟨⟨by decide +kernel, by decide +kernel⟩, List.mem_of_getElem? (i := 243) (by decide +kernel), List.mem_of_getElem? (i := 867) (by decide +kernel), List.mem_of_getElem? (i := 868) (by decide +kernel)⟩
theorem lw_p25 : lw_okq (⟨"PutOffParade$LawReader", "joinAtHand", "()I"⟩, 6) := ⟨⟨by decide +kernel, by decide +kernel⟩, List.mem_of_getElem? (i := 243) (by decide +kernel), List.mem_of_getElem? (i := 872) (by decide +kernel), List.mem_of_getElem? (i := 873) (by decide +kernel)⟩
theorem lw_p26 : lw_okq (⟨"PutOffParade$StreetReader", "readPerson", "()Z"⟩, 3) := ⟨⟨by decide +kernel, by decide +kernel⟩, List.mem_of_getElem? (i := 55) (by decide +kernel), List.mem_of_getElem? (i := 889) (by decide +kernel), List.mem_of_getElem? (i := 890) (by decide +kernel)⟩
theorem lw_p27 : lw_okq (⟨"PutOffParade$StreetReader", "readNumberOf", "(LPutOffParade$Word;II)I"⟩, 3) := ⟨⟨by decide +kernel, by decide +kernel⟩, List.mem_of_getElem? (i := 55) (by decide +kernel), List.mem_of_getElem? (i := 896) (by decide +kernel), List.mem_of_getElem? (i := 897) (by decide +kernel)⟩
theorem lw_p28 : lw_okq (⟨"PutOffParade$StreetReader", "readDuty", "()Z"⟩, 3) := ⟨⟨by decide +kernel, by decide +kernel⟩, List.mem_of_getElem? (i := 55) (by decide +kernel), List.mem_of_getElem? (i := 910) (by decide +kernel), List.mem_of_getElem? (i := 911) (by decide +kernel)⟩
theorem lw_p29 : lw_okq (⟨"PutOffParade$StreetReader", "readForgotten", "()Z"⟩, 3) := ⟨⟨by decide +kernel, by decide +kernel⟩, List.mem_of_getElem? (i := 55) (by decide +kernel), List.mem_of_getElem? (i := 930) (by decide +kernel), List.mem_of_getElem? (i := 931) (by decide +kernel)⟩
theorem lw_p30 : lw_okq (⟨"PutOffParade$StreetReader", "readSetting", "()Z"⟩, 3) := ⟨⟨by decide +kernel, by decide +kernel⟩, List.mem_of_getElem? (i := 55) (by decide +kernel), List.mem_of_getElem? (i := 936) (by decide +kernel), List.mem_of_getElem? (i := 937) (by decide +kernel)⟩
theorem lw_p31 : lw_okq (⟨"java/lang/Throwable", "fillInStackTrace", "(I)Ljava/lang/Throwable;"⟩, 6) := ⟨⟨by decide +kernel, by decide +kernel⟩, List.mem_of_getElem? (i := 991) (by decide +kernel), List.mem_of_getElem? (i := 989) (by decide +kernel), List.mem_of_getElem? (i := 990) (by decide +kernel)⟩
def lw_privs_2 : List (MethodName × Nat) := [(⟨"PutOffParade$LawReader", "takeKind", "()I"⟩, 6), (⟨"PutOffParade$LawReader", "readCondition", "()Z"⟩, 6), (⟨"PutOffParade$LawReader", "openDeeper", "()Z"⟩, 6), (⟨"PutOffParade$LawReader", "hold", "(I)V"⟩, 6), (⟨"PutOffParade$LawReader", "readAtom", "()Z"⟩, 6), (⟨"PutOffParade$LawReader", "readSum", "()Z"⟩, 6), (⟨"PutOffParade$LawReader", "partAtHand", "()I"⟩, 6), (⟨"PutOffParade$LawReader", "closeDeeper", "()V"⟩, 6), (⟨"PutOffParade$LawReader", "emitHeld", "(I)V"⟩, 6), (⟨"PutOffParade$LawReader", "joinAtHand", "()I"⟩, 6), (⟨"PutOffParade$StreetReader", "readPerson", "()Z"⟩, 3), (⟨"PutOffParade$StreetReader", "readNumberOf", "(LPutOffParade$Word;II)I"⟩, 3), (⟨"PutOffParade$StreetReader", "readDuty", "()Z"⟩, 3), (⟨"PutOffParade$StreetReader", "readForgotten", "()Z"⟩, 3), (⟨"PutOffParade$StreetReader", "readSetting", "()Z"⟩, 3), (⟨"java/lang/Throwable", "fillInStackTrace", "(I)Ljava/lang/Throwable;"⟩, 6)]
theorem lw_r2 : ∀ q ∈ lw_privs_2, lw_okq q := List.forall_mem_cons.mpr ⟨lw_p16, List.forall_mem_cons.mpr ⟨lw_p17, List.forall_mem_cons.mpr ⟨lw_p18, List.forall_mem_cons.mpr ⟨lw_p19, List.forall_mem_cons.mpr ⟨lw_p20, List.forall_mem_cons.mpr ⟨lw_p21, List.forall_mem_cons.mpr ⟨lw_p22, List.forall_mem_cons.mpr ⟨lw_p23, List.forall_mem_cons.mpr ⟨lw_p24, List.forall_mem_cons.mpr ⟨lw_p25, List.forall_mem_cons.mpr ⟨lw_p26, List.forall_mem_cons.mpr ⟨lw_p27, List.forall_mem_cons.mpr ⟨lw_p28, List.forall_mem_cons.mpr ⟨lw_p29, List.forall_mem_cons.mpr ⟨lw_p30, List.forall_mem_cons.mpr ⟨lw_p31, fun _ h => absurd h List.not_mem_nil⟩⟩⟩⟩⟩⟩⟩⟩⟩⟩⟩⟩⟩⟩⟩⟩
theorem lw_p32 : lw_okq (⟨"PutOffParade", "needPerson", "(I)V"⟩, 14) := ⟨⟨by decide +kernel, by decide +kernel⟩, List.mem_of_getElem? (i := 31) (by decide +kernel), List.mem_of_getElem? (i := 1054) (by decide +kernel), List.mem_of_getElem? (i := 1055) (by decide +kernel)⟩
theorem lw_p33 : lw_okq (⟨"PutOffParade", "shareOf", "(I)I"⟩, 14) := ⟨⟨by decide +kernel, by decide +kernel⟩, List.mem_of_getElem? (i := 31) (by decide +kernel), List.mem_of_getElem? (i := 1077) (by decide +kernel), List.mem_of_getElem? (i := 1078) (by decide +kernel)⟩
theorem lw_p34 : lw_okq (⟨"PutOffParade", "needDuty", "(I)V"⟩, 14) := ⟨⟨by decide +kernel, by decide +kernel⟩, List.mem_of_getElem? (i := 31) (by decide +kernel), List.mem_of_getElem? (i := 1103) (by decide +kernel), List.mem_of_getElem? (i := 1104) (by decide +kernel)⟩
theorem lw_p35 : lw_okq (⟨"PutOffParade", "rememberAct", "()V"⟩, 14) := ⟨⟨by decide +kernel, by decide +kernel⟩, List.mem_of_getElem? (i := 31) (by decide +kernel), List.mem_of_getElem? (i := 1135) (by decide +kernel), List.mem_of_getElem? (i := 1136) (by decide +kernel)⟩
theorem lw_p36 : lw_okq (⟨"PutOffParade", "needState", "(II)V"⟩, 14) := ⟨⟨by decide +kernel, by decide +kernel⟩, List.mem_of_getElem? (i := 31) (by decide +kernel), List.mem_of_getElem? (i := 1146) (by decide +kernel), List.mem_of_getElem? (i := 1147) (by decide +kernel)⟩
theorem lw_p37 : lw_okq (⟨"PutOffParade", "letParadeGoBy", "()V"⟩, 14) := ⟨⟨by decide +kernel, by decide +kernel⟩, List.mem_of_getElem? (i := 31) (by decide +kernel), List.mem_of_getElem? (i := 1200) (by decide +kernel), List.mem_of_getElem? (i := 1201) (by decide +kernel)⟩
theorem lw_p38 : lw_okq (⟨"PutOffParade", "takeWhoFits", "()I"⟩, 14) := ⟨⟨by decide +kernel, by decide +kernel⟩, List.mem_of_getElem? (i := 31) (by decide +kernel), List.mem_of_getElem? (i := 1314) (by decide +kernel), List.mem_of_getElem? (i := 1315) (by decide +kernel)⟩
theorem lw_p39 : lw_okq (⟨"PutOffParade", "whoFits", "()I"⟩, 14) := ⟨⟨by decide +kernel, by decide +kernel⟩, List.mem_of_getElem? (i := 31) (by decide +kernel), List.mem_of_getElem? (i := 1318) (by decide +kernel), List.mem_of_getElem? (i := 1319) (by decide +kernel)⟩
theorem lw_p40 : lw_okq (⟨"PutOffParade", "kerbToAskFor", "(I)I"⟩, 14) := ⟨⟨by decide +kernel, by decide +kernel⟩, List.mem_of_getElem? (i := 31) (by decide +kernel), List.mem_of_getElem? (i := 1334) (by decide +kernel), List.mem_of_getElem? (i := 1335) (by decide +kernel)⟩
theorem lw_p41 : lw_okq (⟨"PutOffParade", "shameTriedOut", "(II)I"⟩, 14) := ⟨⟨by decide +kernel, by decide +kernel⟩, List.mem_of_getElem? (i := 31) (by decide +kernel), List.mem_of_getElem? (i := 1427) (by decide +kernel), List.mem_of_getElem? (i := 1428) (by decide +kernel)⟩
theorem lw_p42 : lw_okq (⟨"PutOffParadeModel", "readAll", "(Z)I"⟩, 20) := ⟨⟨by decide +kernel, by decide +kernel⟩, List.mem_of_getElem? (i := 1470) (by decide +kernel), List.mem_of_getElem? (i := 1566) (by decide +kernel), List.mem_of_getElem? (i := 1567) (by decide +kernel)⟩
theorem lw_p43 : lw_okq (⟨"PutOffParadeModel", "uses", "()V"⟩, 20) := ⟨⟨by decide +kernel, by decide +kernel⟩, List.mem_of_getElem? (i := 1470) (by decide +kernel), List.mem_of_getElem? (i := 1570) (by decide +kernel), List.mem_of_getElem? (i := 1571) (by decide +kernel)⟩
theorem lw_p44 : lw_okq (⟨"PutOffParadeModel", "blanks", "()V"⟩, 20) := ⟨⟨by decide +kernel, by decide +kernel⟩, List.mem_of_getElem? (i := 1470) (by decide +kernel), List.mem_of_getElem? (i := 1574) (by decide +kernel), List.mem_of_getElem? (i := 1575) (by decide +kernel)⟩
theorem lw_p45 : lw_okq (⟨"PutOffParadeModel", "isAt", "(II)Z"⟩, 20) := ⟨⟨by decide +kernel, by decide +kernel⟩, List.mem_of_getElem? (i := 1470) (by decide +kernel), List.mem_of_getElem? (i := 1578) (by decide +kernel), List.mem_of_getElem? (i := 1579) (by decide +kernel)⟩
theorem lw_p46 : lw_okq (⟨"PutOffParadeModel", "readLine", "(ZI)Z"⟩, 20) := ⟨⟨by decide +kernel, by decide +kernel⟩, List.mem_of_getElem? (i := 1470) (by decide +kernel), List.mem_of_getElem? (i := 1582) (by decide +kernel), List.mem_of_getElem? (i := 1583) (by decide +kernel)⟩
theorem lw_p47 : lw_okq (⟨"PutOffParadeModel", "letters", "()V"⟩, 20) := ⟨⟨by decide +kernel, by decide +kernel⟩, List.mem_of_getElem? (i := 1470) (by decide +kernel), List.mem_of_getElem? (i := 1586) (by decide +kernel), List.mem_of_getElem? (i := 1587) (by decide +kernel)⟩
def lw_privs_3 : List (MethodName × Nat) := [(⟨"PutOffParade", "needPerson", "(I)V"⟩, 14), (⟨"PutOffParade", "shareOf", "(I)I"⟩, 14), (⟨"PutOffParade", "needDuty", "(I)V"⟩, 14), (⟨"PutOffParade", "rememberAct", "()V"⟩, 14), (⟨"PutOffParade", "needState", "(II)V"⟩, 14), (⟨"PutOffParade", "letParadeGoBy", "()V"⟩, 14), (⟨"PutOffParade", "takeWhoFits", "()I"⟩, 14), (⟨"PutOffParade", "whoFits", "()I"⟩, 14), (⟨"PutOffParade", "kerbToAskFor", "(I)I"⟩, 14), (⟨"PutOffParade", "shameTriedOut", "(II)I"⟩, 14), (⟨"PutOffParadeModel", "readAll", "(Z)I"⟩, 20), (⟨"PutOffParadeModel", "uses", "()V"⟩, 20), (⟨"PutOffParadeModel", "blanks", "()V"⟩, 20), (⟨"PutOffParadeModel", "isAt", "(II)Z"⟩, 20), (⟨"PutOffParadeModel", "readLine", "(ZI)Z"⟩, 20), (⟨"PutOffParadeModel", "letters", "()V"⟩, 20)]
theorem lw_r3 : ∀ q ∈ lw_privs_3, lw_okq q := List.forall_mem_cons.mpr ⟨lw_p32, List.forall_mem_cons.mpr ⟨lw_p33, List.forall_mem_cons.mpr ⟨lw_p34, List.forall_mem_cons.mpr ⟨lw_p35, List.forall_mem_cons.mpr ⟨lw_p36, List.forall_mem_cons.mpr ⟨lw_p37, List.forall_mem_cons.mpr ⟨lw_p38, List.forall_mem_cons.mpr ⟨lw_p39, List.forall_mem_cons.mpr ⟨lw_p40, List.forall_mem_cons.mpr ⟨lw_p41, List.forall_mem_cons.mpr ⟨lw_p42, List.forall_mem_cons.mpr ⟨lw_p43, List.forall_mem_cons.mpr ⟨lw_p44, List.forall_mem_cons.mpr ⟨lw_p45, List.forall_mem_cons.mpr ⟨lw_p46, List.forall_mem_cons.mpr ⟨lw_p47, fun _ h => absurd h List.not_mem_nil⟩⟩⟩⟩⟩⟩⟩⟩⟩⟩⟩⟩⟩⟩⟩⟩
theorem lw_p48 : lw_okq (⟨"PutOffParadeModel", "readStreetLine", "()Z"⟩, 20) := ⟨⟨by decide +kernel, by decide +kernel⟩, List.mem_of_getElem? (i := 1470) (by decide +kernel), List.mem_of_getElem? (i := 1590) (by decide +kernel), List.mem_of_getElem? (i := 1591) (by decide +kernel)⟩
theorem lw_p49 : lw_okq (⟨"PutOffParadeModel", "isWord", "(Ljava/lang/String;)Z"⟩, 20) := ⟨⟨by decide +kernel, by decide +kernel⟩, List.mem_of_getElem? (i := 1470) (by decide +kernel), List.mem_of_getElem? (i := 1595) (by decide +kernel), List.mem_of_getElem? (i := 1596) (by decide +kernel)⟩
theorem lw_p50 : lw_okq (⟨"PutOffParadeModel", "readPerson", "()Z"⟩, 20) := ⟨⟨by decide +kernel, by decide +kernel⟩, List.mem_of_getElem? (i := 1470) (by decide +kernel), List.mem_of_getElem? (i := 1601) (by decide +kernel), List.mem_of_getElem? (i := 1602) (by decide +kernel)⟩
theorem lw_p51 : lw_okq (⟨"PutOffParadeModel", "people", "()I"⟩, 20) := ⟨⟨by decide +kernel, by decide +kernel⟩, List.mem_of_getElem? (i := 1470) (by decide +kernel), List.mem_of_getElem? (i := 1605) (by decide +kernel), List.mem_of_getElem? (i := 1606) (by decide +kernel)⟩
theorem lw_p52 : lw_okq (⟨"PutOffParadeModel", "numberBehind", "(Ljava/lang/String;II)I"⟩, 20) := ⟨⟨by decide +kernel, by decide +kernel⟩, List.mem_of_getElem? (i := 1470) (by decide +kernel), List.mem_of_getElem? (i := 1610) (by decide +kernel), List.mem_of_getElem? (i := 1611) (by decide +kernel)⟩
theorem lw_p53 : lw_okq (⟨"PutOffParadeModel", "number", "(II)I"⟩, 20) := ⟨⟨by decide +kernel, by decide +kernel⟩, List.mem_of_getElem? (i := 1470) (by decide +kernel), List.mem_of_getElem? (i := 1614) (by decide +kernel), List.mem_of_getElem? (i := 1615) (by decide +kernel)⟩
theorem lw_p54 : lw_okq (⟨"PutOffParadeModel", "readDuty", "()Z"⟩, 20) := ⟨⟨by decide +kernel, by decide +kernel⟩, List.mem_of_getElem? (i := 1470) (by decide +kernel), List.mem_of_getElem? (i := 1623) (by decide +kernel), List.mem_of_getElem? (i := 1624) (by decide +kernel)⟩
theorem lw_p55 : lw_okq (⟨"PutOffParadeModel", "duties", "()I"⟩, 20) := ⟨⟨by decide +kernel, by decide +kernel⟩, List.mem_of_getElem? (i := 1470) (by decide +kernel), List.mem_of_getElem? (i := 1627) (by decide +kernel), List.mem_of_getElem? (i := 1628) (by decide +kernel)⟩
theorem lw_p56 : lw_okq (⟨"PutOffParadeModel", "passes", "(Ljava/lang/String;)Z"⟩, 20) := ⟨⟨by decide +kernel, by decide +kernel⟩, List.mem_of_getElem? (i := 1470) (by decide +kernel), List.mem_of_getElem? (i := 1634) (by decide +kernel), List.mem_of_getElem? (i := 1635) (by decide +kernel)⟩
theorem lw_p57 : lw_okq (⟨"PutOffParadeModel", "readForgotten", "()Z"⟩, 20) := ⟨⟨by decide +kernel, by decide +kernel⟩, List.mem_of_getElem? (i := 1470) (by decide +kernel), List.mem_of_getElem? (i := 1644) (by decide +kernel), List.mem_of_getElem? (i := 1645) (by decide +kernel)⟩
theorem lw_p58 : lw_okq (⟨"PutOffParadeModel", "isWaiting", "(I)Z"⟩, 20) := ⟨⟨by decide +kernel, by decide +kernel⟩, List.mem_of_getElem? (i := 1470) (by decide +kernel), List.mem_of_getElem? (i := 1648) (by decide +kernel), List.mem_of_getElem? (i := 1649) (by decide +kernel)⟩
theorem lw_p59 : lw_okq (⟨"PutOffParadeModel", "of", "(II)I"⟩, 20) := ⟨⟨by decide +kernel, by decide +kernel⟩, List.mem_of_getElem? (i := 1470) (by decide +kernel), List.mem_of_getElem? (i := 1652) (by decide +kernel), List.mem_of_getElem? (i := 1653) (by decide +kernel)⟩
theorem lw_p60 : lw_okq (⟨"PutOffParadeModel", "readNumber", "(III)Z"⟩, 20) := ⟨⟨by decide +kernel, by decide +kernel⟩, List.mem_of_getElem? (i := 1470) (by decide +kernel), List.mem_of_getElem? (i := 1657) (by decide +kernel), List.mem_of_getElem? (i := 1658) (by decide +kernel)⟩
theorem lw_p61 : lw_okq (⟨"PutOffParadeModel", "readLawLine", "(I)Z"⟩, 20) := ⟨⟨by decide +kernel, by decide +kernel⟩, List.mem_of_getElem? (i := 1470) (by decide +kernel), List.mem_of_getElem? (i := 1665) (by decide +kernel), List.mem_of_getElem? (i := 1666) (by decide +kernel)⟩
theorem lw_p62 : lw_okq (⟨"PutOffParadeModel", "readCond", "()Z"⟩, 20) := ⟨⟨by decide +kernel, by decide +kernel⟩, List.mem_of_getElem? (i := 1470) (by decide +kernel), List.mem_of_getElem? (i := 1673) (by decide +kernel), List.mem_of_getElem? (i := 1674) (by decide +kernel)⟩
theorem lw_p63 : lw_okq (⟨"PutOffParadeModel", "readAllOf", "()Z"⟩, 20) := ⟨⟨by decide +kernel, by decide +kernel⟩, List.mem_of_getElem? (i := 1470) (by decide +kernel), List.mem_of_getElem? (i := 1677) (by decide +kernel), List.mem_of_getElem? (i := 1678) (by decide +kernel)⟩
def lw_privs_4 : List (MethodName × Nat) := [(⟨"PutOffParadeModel", "readStreetLine", "()Z"⟩, 20), (⟨"PutOffParadeModel", "isWord", "(Ljava/lang/String;)Z"⟩, 20), (⟨"PutOffParadeModel", "readPerson", "()Z"⟩, 20), (⟨"PutOffParadeModel", "people", "()I"⟩, 20), (⟨"PutOffParadeModel", "numberBehind", "(Ljava/lang/String;II)I"⟩, 20), (⟨"PutOffParadeModel", "number", "(II)I"⟩, 20), (⟨"PutOffParadeModel", "readDuty", "()Z"⟩, 20), (⟨"PutOffParadeModel", "duties", "()I"⟩, 20), (⟨"PutOffParadeModel", "passes", "(Ljava/lang/String;)Z"⟩, 20), (⟨"PutOffParadeModel", "readForgotten", "()Z"⟩, 20), (⟨"PutOffParadeModel", "isWaiting", "(I)Z"⟩, 20), (⟨"PutOffParadeModel", "of", "(II)I"⟩, 20), (⟨"PutOffParadeModel", "readNumber", "(III)Z"⟩, 20), (⟨"PutOffParadeModel", "readLawLine", "(I)Z"⟩, 20), (⟨"PutOffParadeModel", "readCond", "()Z"⟩, 20), (⟨"PutOffParadeModel", "readAllOf", "()Z"⟩, 20)]
theorem lw_r4 : ∀ q ∈ lw_privs_4, lw_okq q := List.forall_mem_cons.mpr ⟨lw_p48, List.forall_mem_cons.mpr ⟨lw_p49, List.forall_mem_cons.mpr ⟨lw_p50, List.forall_mem_cons.mpr ⟨lw_p51, List.forall_mem_cons.mpr ⟨lw_p52, List.forall_mem_cons.mpr ⟨lw_p53, List.forall_mem_cons.mpr ⟨lw_p54, List.forall_mem_cons.mpr ⟨lw_p55, List.forall_mem_cons.mpr ⟨lw_p56, List.forall_mem_cons.mpr ⟨lw_p57, List.forall_mem_cons.mpr ⟨lw_p58, List.forall_mem_cons.mpr ⟨lw_p59, List.forall_mem_cons.mpr ⟨lw_p60, List.forall_mem_cons.mpr ⟨lw_p61, List.forall_mem_cons.mpr ⟨lw_p62, List.forall_mem_cons.mpr ⟨lw_p63, fun _ h => absurd h List.not_mem_nil⟩⟩⟩⟩⟩⟩⟩⟩⟩⟩⟩⟩⟩⟩⟩⟩
theorem lw_p64 : lw_okq (⟨"PutOffParadeModel", "readAtom", "()Z"⟩, 20) := ⟨⟨by decide +kernel, by decide +kernel⟩, List.mem_of_getElem? (i := 1470) (by decide +kernel), List.mem_of_getElem? (i := 1681) (by decide +kernel), List.mem_of_getElem? (i := 1682) (by decide +kernel)⟩
theorem lw_p65 : lw_okq (⟨"PutOffParadeModel", "sign", "(I)Z"⟩, 20) := ⟨⟨by decide +kernel, by decide +kernel⟩, List.mem_of_getElem? (i := 1470) (by decide +kernel), List.mem_of_getElem? (i := 1685) (by decide +kernel), List.mem_of_getElem? (i := 1686) (by decide +kernel)⟩
theorem lw_p66 : lw_okq (⟨"PutOffParadeModel", "emits", "(II)V"⟩, 20) := ⟨⟨by decide +kernel, by decide +kernel⟩, List.mem_of_getElem? (i := 1470) (by decide +kernel), List.mem_of_getElem? (i := 1690) (by decide +kernel), List.mem_of_getElem? (i := 1691) (by decide +kernel)⟩
theorem lw_p67 : lw_okq (⟨"PutOffParadeModel", "readTag", "()Z"⟩, 20) := ⟨⟨by decide +kernel, by decide +kernel⟩, List.mem_of_getElem? (i := 1470) (by decide +kernel), List.mem_of_getElem? (i := 1694) (by decide +kernel), List.mem_of_getElem? (i := 1695) (by decide +kernel)⟩
theorem lw_p68 : lw_okq (⟨"PutOffParadeModel", "readSum", "()Z"⟩, 20) := ⟨⟨by decide +kernel, by decide +kernel⟩, List.mem_of_getElem? (i := 1470) (by decide +kernel), List.mem_of_getElem? (i := 1700) (by decide +kernel), List.mem_of_getElem? (i := 1701) (by decide +kernel)⟩
theorem lw_p69 : lw_okq (⟨"PutOffParadeModel", "readPart", "()Z"⟩, 20) := ⟨⟨by decide +kernel, by decide +kernel⟩, List.mem_of_getElem? (i := 1470) (by decide +kernel), List.mem_of_getElem? (i := 1704) (by decide +kernel), List.mem_of_getElem? (i := 1705) (by decide +kernel)⟩
theorem lw_p70 : lw_okq (⟨"PutOffParadeModel", "wordOfPart", "()I"⟩, 20) := ⟨⟨by decide +kernel, by decide +kernel⟩, List.mem_of_getElem? (i := 1470) (by decide +kernel), List.mem_of_getElem? (i := 1708) (by decide +kernel), List.mem_of_getElem? (i := 1709) (by decide +kernel)⟩
theorem lw_p71 : lw_okq (⟨"PutOffParadeModel", "throwsIf", "(ZI)Z"⟩, 20) := ⟨⟨by decide +kernel, by decide +kernel⟩, List.mem_of_getElem? (i := 1470) (by decide +kernel), List.mem_of_getElem? (i := 1717) (by decide +kernel), List.mem_of_getElem? (i := 1718) (by decide +kernel)⟩
theorem lw_p72 : lw_okq (⟨"PutOffParadeModel", "placeOf", "(I)I"⟩, 20) := ⟨⟨by decide +kernel, by decide +kernel⟩, List.mem_of_getElem? (i := 1470) (by decide +kernel), List.mem_of_getElem? (i := 1729) (by decide +kernel), List.mem_of_getElem? (i := 1730) (by decide +kernel)⟩
theorem lw_p73 : lw_okq (⟨"PutOffParadeModel", "goesAhead", "(II)Z"⟩, 20) := ⟨⟨by decide +kernel, by decide +kernel⟩, List.mem_of_getElem? (i := 1470) (by decide +kernel), List.mem_of_getElem? (i := 1733) (by decide +kernel), List.mem_of_getElem? (i := 1734) (by decide +kernel)⟩
theorem lw_p74 : lw_okq (⟨"PutOffParadeModel", "canOnes", "()I"⟩, 20) := ⟨⟨by decide +kernel, by decide +kernel⟩, List.mem_of_getElem? (i := 1470) (by decide +kernel), List.mem_of_getElem? (i := 1741) (by decide +kernel), List.mem_of_getElem? (i := 1742) (by decide +kernel)⟩
theorem lw_p75 : lw_okq (⟨"PutOffParadeModel", "canBeCalled", "(I)Z"⟩, 20) := ⟨⟨by decide +kernel, by decide +kernel⟩, List.mem_of_getElem? (i := 1470) (by decide +kernel), List.mem_of_getElem? (i := 1745) (by decide +kernel), List.mem_of_getElem? (i := 1746) (by decide +kernel)⟩
theorem lw_p76 : lw_okq (⟨"PutOffParadeModel", "isReady", "(I)Z"⟩, 20) := ⟨⟨by decide +kernel, by decide +kernel⟩, List.mem_of_getElem? (i := 1470) (by decide +kernel), List.mem_of_getElem? (i := 1749) (by decide +kernel), List.mem_of_getElem? (i := 1750) (by decide +kernel)⟩
theorem lw_p77 : lw_okq (⟨"PutOffParadeModel", "leansWell", "(I)Z"⟩, 20) := ⟨⟨by decide +kernel, by decide +kernel⟩, List.mem_of_getElem? (i := 1470) (by decide +kernel), List.mem_of_getElem? (i := 1753) (by decide +kernel), List.mem_of_getElem? (i := 1754) (by decide +kernel)⟩
theorem lw_p78 : lw_okq (⟨"PutOffParadeModel", "isDone", "(I)Z"⟩, 20) := ⟨⟨by decide +kernel, by decide +kernel⟩, List.mem_of_getElem? (i := 1470) (by decide +kernel), List.mem_of_getElem? (i := 1757) (by decide +kernel), List.mem_of_getElem? (i := 1758) (by decide +kernel)⟩
theorem lw_p79 : lw_okq (⟨"PutOffParadeModel", "passesBy", "(I)I"⟩, 20) := ⟨⟨by decide +kernel, by decide +kernel⟩, List.mem_of_getElem? (i := 1470) (by decide +kernel), List.mem_of_getElem? (i := 1761) (by decide +kernel), List.mem_of_getElem? (i := 1762) (by decide +kernel)⟩
def lw_privs_5 : List (MethodName × Nat) := [(⟨"PutOffParadeModel", "readAtom", "()Z"⟩, 20), (⟨"PutOffParadeModel", "sign", "(I)Z"⟩, 20), (⟨"PutOffParadeModel", "emits", "(II)V"⟩, 20), (⟨"PutOffParadeModel", "readTag", "()Z"⟩, 20), (⟨"PutOffParadeModel", "readSum", "()Z"⟩, 20), (⟨"PutOffParadeModel", "readPart", "()Z"⟩, 20), (⟨"PutOffParadeModel", "wordOfPart", "()I"⟩, 20), (⟨"PutOffParadeModel", "throwsIf", "(ZI)Z"⟩, 20), (⟨"PutOffParadeModel", "placeOf", "(I)I"⟩, 20), (⟨"PutOffParadeModel", "goesAhead", "(II)Z"⟩, 20), (⟨"PutOffParadeModel", "canOnes", "()I"⟩, 20), (⟨"PutOffParadeModel", "canBeCalled", "(I)Z"⟩, 20), (⟨"PutOffParadeModel", "isReady", "(I)Z"⟩, 20), (⟨"PutOffParadeModel", "leansWell", "(I)Z"⟩, 20), (⟨"PutOffParadeModel", "isDone", "(I)Z"⟩, 20), (⟨"PutOffParadeModel", "passesBy", "(I)I"⟩, 20)]
theorem lw_r5 : ∀ q ∈ lw_privs_5, lw_okq q := List.forall_mem_cons.mpr ⟨lw_p64, List.forall_mem_cons.mpr ⟨lw_p65, List.forall_mem_cons.mpr ⟨lw_p66, List.forall_mem_cons.mpr ⟨lw_p67, List.forall_mem_cons.mpr ⟨lw_p68, List.forall_mem_cons.mpr ⟨lw_p69, List.forall_mem_cons.mpr ⟨lw_p70, List.forall_mem_cons.mpr ⟨lw_p71, List.forall_mem_cons.mpr ⟨lw_p72, List.forall_mem_cons.mpr ⟨lw_p73, List.forall_mem_cons.mpr ⟨lw_p74, List.forall_mem_cons.mpr ⟨lw_p75, List.forall_mem_cons.mpr ⟨lw_p76, List.forall_mem_cons.mpr ⟨lw_p77, List.forall_mem_cons.mpr ⟨lw_p78, List.forall_mem_cons.mpr ⟨lw_p79, fun _ h => absurd h List.not_mem_nil⟩⟩⟩⟩⟩⟩⟩⟩⟩⟩⟩⟩⟩⟩⟩⟩
theorem lw_p80 : lw_okq (⟨"PutOffParadeModel", "noDuty", "(I)Z"⟩, 20) := ⟨⟨by decide +kernel, by decide +kernel⟩, List.mem_of_getElem? (i := 1470) (by decide +kernel), List.mem_of_getElem? (i := 1769) (by decide +kernel), List.mem_of_getElem? (i := 1770) (by decide +kernel)⟩
theorem lw_p81 : lw_okq (⟨"PutOffParadeModel", "whereAt", "(II)I"⟩, 20) := ⟨⟨by decide +kernel, by decide +kernel⟩, List.mem_of_getElem? (i := 1470) (by decide +kernel), List.mem_of_getElem? (i := 1786) (by decide +kernel), List.mem_of_getElem? (i := 1787) (by decide +kernel)⟩
theorem lw_p82 : lw_okq (⟨"PutOffParadeModel", "canAll", "(I)Z"⟩, 20) := ⟨⟨by decide +kernel, by decide +kernel⟩, List.mem_of_getElem? (i := 1470) (by decide +kernel), List.mem_of_getElem? (i := 1800) (by decide +kernel), List.mem_of_getElem? (i := 1801) (by decide +kernel)⟩
theorem lw_p83 : lw_okq (⟨"PutOffParadeModel", "noPerson", "(I)Z"⟩, 20) := ⟨⟨by decide +kernel, by decide +kernel⟩, List.mem_of_getElem? (i := 1470) (by decide +kernel), List.mem_of_getElem? (i := 1814) (by decide +kernel), List.mem_of_getElem? (i := 1815) (by decide +kernel)⟩
theorem lw_p84 : lw_okq (⟨"PutOffParadeModel", "ownedBy", "(I)I"⟩, 20) := ⟨⟨by decide +kernel, by decide +kernel⟩, List.mem_of_getElem? (i := 1470) (by decide +kernel), List.mem_of_getElem? (i := 1818) (by decide +kernel), List.mem_of_getElem? (i := 1819) (by decide +kernel)⟩
theorem lw_p85 : lw_okq (⟨"PutOffParadeModel", "loadOf", "(I)I"⟩, 20) := ⟨⟨by decide +kernel, by decide +kernel⟩, List.mem_of_getElem? (i := 1470) (by decide +kernel), List.mem_of_getElem? (i := 1822) (by decide +kernel), List.mem_of_getElem? (i := 1823) (by decide +kernel)⟩
theorem lw_p86 : lw_okq (⟨"PutOffParadeModel", "waitingOf", "(I)I"⟩, 20) := ⟨⟨by decide +kernel, by decide +kernel⟩, List.mem_of_getElem? (i := 1470) (by decide +kernel), List.mem_of_getElem? (i := 1826) (by decide +kernel), List.mem_of_getElem? (i := 1827) (by decide +kernel)⟩
theorem lw_p87 : lw_okq (⟨"PutOffParadeModel", "ofState", "(I)I"⟩, 20) := ⟨⟨by decide +kernel, by decide +kernel⟩, List.mem_of_getElem? (i := 1470) (by decide +kernel), List.mem_of_getElem? (i := 1830) (by decide +kernel), List.mem_of_getElem? (i := 1831) (by decide +kernel)⟩
theorem lw_p88 : lw_okq (⟨"PutOffParadeModel", "hoursOf", "(I)I"⟩, 20) := ⟨⟨by decide +kernel, by decide +kernel⟩, List.mem_of_getElem? (i := 1470) (by decide +kernel), List.mem_of_getElem? (i := 1834) (by decide +kernel), List.mem_of_getElem? (i := 1835) (by decide +kernel)⟩
theorem lw_p89 : lw_okq (⟨"PutOffParadeModel", "needsOf", "(I)I"⟩, 20) := ⟨⟨by decide +kernel, by decide +kernel⟩, List.mem_of_getElem? (i := 1470) (by decide +kernel), List.mem_of_getElem? (i := 1838) (by decide +kernel), List.mem_of_getElem? (i := 1839) (by decide +kernel)⟩
theorem lw_p90 : lw_okq (⟨"PutOffParadeModel", "ofPerson", "(II)I"⟩, 20) := ⟨⟨by decide +kernel, by decide +kernel⟩, List.mem_of_getElem? (i := 1470) (by decide +kernel), List.mem_of_getElem? (i := 1842) (by decide +kernel), List.mem_of_getElem? (i := 1843) (by decide +kernel)⟩
theorem lw_p91 : lw_okq (⟨"PutOffParadeModel", "shareOf", "(I)I"⟩, 20) := ⟨⟨by decide +kernel, by decide +kernel⟩, List.mem_of_getElem? (i := 1470) (by decide +kernel), List.mem_of_getElem? (i := 1849) (by decide +kernel), List.mem_of_getElem? (i := 1850) (by decide +kernel)⟩
theorem lw_p92 : lw_okq (⟨"PutOffParadeModel", "shameOf", "(I)I"⟩, 20) := ⟨⟨by decide +kernel, by decide +kernel⟩, List.mem_of_getElem? (i := 1470) (by decide +kernel), List.mem_of_getElem? (i := 1853) (by decide +kernel), List.mem_of_getElem? (i := 1854) (by decide +kernel)⟩
theorem lw_p93 : lw_okq (⟨"PutOffParadeModel", "shamesBy", "(I)I"⟩, 20) := ⟨⟨by decide +kernel, by decide +kernel⟩, List.mem_of_getElem? (i := 1470) (by decide +kernel), List.mem_of_getElem? (i := 1857) (by decide +kernel), List.mem_of_getElem? (i := 1858) (by decide +kernel)⟩
theorem lw_p94 : lw_okq (⟨"PutOffParadeModel", "sumOf", "(II)I"⟩, 20) := ⟨⟨by decide +kernel, by decide +kernel⟩, List.mem_of_getElem? (i := 1470) (by decide +kernel), List.mem_of_getElem? (i := 1861) (by decide +kernel), List.mem_of_getElem? (i := 1862) (by decide +kernel)⟩
theorem lw_p95 : lw_okq (⟨"PutOffParadeModel", "holdsLine", "(II)Z"⟩, 20) := ⟨⟨by decide +kernel, by decide +kernel⟩, List.mem_of_getElem? (i := 1470) (by decide +kernel), List.mem_of_getElem? (i := 1865) (by decide +kernel), List.mem_of_getElem? (i := 1866) (by decide +kernel)⟩
def lw_privs_6 : List (MethodName × Nat) := [(⟨"PutOffParadeModel", "noDuty", "(I)Z"⟩, 20), (⟨"PutOffParadeModel", "whereAt", "(II)I"⟩, 20), (⟨"PutOffParadeModel", "canAll", "(I)Z"⟩, 20), (⟨"PutOffParadeModel", "noPerson", "(I)Z"⟩, 20), (⟨"PutOffParadeModel", "ownedBy", "(I)I"⟩, 20), (⟨"PutOffParadeModel", "loadOf", "(I)I"⟩, 20), (⟨"PutOffParadeModel", "waitingOf", "(I)I"⟩, 20), (⟨"PutOffParadeModel", "ofState", "(I)I"⟩, 20), (⟨"PutOffParadeModel", "hoursOf", "(I)I"⟩, 20), (⟨"PutOffParadeModel", "needsOf", "(I)I"⟩, 20), (⟨"PutOffParadeModel", "ofPerson", "(II)I"⟩, 20), (⟨"PutOffParadeModel", "shareOf", "(I)I"⟩, 20), (⟨"PutOffParadeModel", "shameOf", "(I)I"⟩, 20), (⟨"PutOffParadeModel", "shamesBy", "(I)I"⟩, 20), (⟨"PutOffParadeModel", "sumOf", "(II)I"⟩, 20), (⟨"PutOffParadeModel", "holdsLine", "(II)Z"⟩, 20)]
theorem lw_r6 : ∀ q ∈ lw_privs_6, lw_okq q := List.forall_mem_cons.mpr ⟨lw_p80, List.forall_mem_cons.mpr ⟨lw_p81, List.forall_mem_cons.mpr ⟨lw_p82, List.forall_mem_cons.mpr ⟨lw_p83, List.forall_mem_cons.mpr ⟨lw_p84, List.forall_mem_cons.mpr ⟨lw_p85, List.forall_mem_cons.mpr ⟨lw_p86, List.forall_mem_cons.mpr ⟨lw_p87, List.forall_mem_cons.mpr ⟨lw_p88, List.forall_mem_cons.mpr ⟨lw_p89, List.forall_mem_cons.mpr ⟨lw_p90, List.forall_mem_cons.mpr ⟨lw_p91, List.forall_mem_cons.mpr ⟨lw_p92, List.forall_mem_cons.mpr ⟨lw_p93, List.forall_mem_cons.mpr ⟨lw_p94, List.forall_mem_cons.mpr ⟨lw_p95, fun _ h => absurd h List.not_mem_nil⟩⟩⟩⟩⟩⟩⟩⟩⟩⟩⟩⟩⟩⟩⟩⟩
theorem lw_p96 : lw_okq (⟨"PutOffParadeModel", "factOf", "(III)I"⟩, 20) := ⟨⟨by decide +kernel, by decide +kernel⟩, List.mem_of_getElem? (i := 1470) (by decide +kernel), List.mem_of_getElem? (i := 1869) (by decide +kernel), List.mem_of_getElem? (i := 1870) (by decide +kernel)⟩
theorem lw_p97 : lw_okq (⟨"PutOffParadeModel", "growsBy", "(I)I"⟩, 20) := ⟨⟨by decide +kernel, by decide +kernel⟩, List.mem_of_getElem? (i := 1470) (by decide +kernel), List.mem_of_getElem? (i := 1878) (by decide +kernel), List.mem_of_getElem? (i := 1879) (by decide +kernel)⟩
theorem lw_p98 : lw_okq (⟨"PutOffParadeModel", "remembers", "()V"⟩, 20) := ⟨⟨by decide +kernel, by decide +kernel⟩, List.mem_of_getElem? (i := 1470) (by decide +kernel), List.mem_of_getElem? (i := 1886) (by decide +kernel), List.mem_of_getElem? (i := 1887) (by decide +kernel)⟩
theorem lw_p99 : lw_okq (⟨"PutOffParadeModel", "finishes", "(I)V"⟩, 20) := ⟨⟨by decide +kernel, by decide +kernel⟩, List.mem_of_getElem? (i := 1470) (by decide +kernel), List.mem_of_getElem? (i := 1890) (by decide +kernel), List.mem_of_getElem? (i := 1891) (by decide +kernel)⟩
theorem lw_p100 : lw_okq (⟨"PutOffParadeModel", "isNow", "(II)V"⟩, 20) := ⟨⟨by decide +kernel, by decide +kernel⟩, List.mem_of_getElem? (i := 1470) (by decide +kernel), List.mem_of_getElem? (i := 1894) (by decide +kernel), List.mem_of_getElem? (i := 1895) (by decide +kernel)⟩
theorem lw_p101 : lw_okq (⟨"PutOffParadeModel", "isForgotten", "(I)Z"⟩, 20) := ⟨⟨by decide +kernel, by decide +kernel⟩, List.mem_of_getElem? (i := 1470) (by decide +kernel), List.mem_of_getElem? (i := 1910) (by decide +kernel), List.mem_of_getElem? (i := 1911) (by decide +kernel)⟩
theorem lw_p102 : lw_okq (⟨"PutOffParadeModel", "goesOn", "(IZ)I"⟩, 20) := ⟨⟨by decide +kernel, by decide +kernel⟩, List.mem_of_getElem? (i := 1470) (by decide +kernel), List.mem_of_getElem? (i := 1930) (by decide +kernel), List.mem_of_getElem? (i := 1931) (by decide +kernel)⟩
theorem lw_p103 : lw_okq (⟨"PutOffParadeModel", "oneDay", "(Z)I"⟩, 20) := ⟨⟨by decide +kernel, by decide +kernel⟩, List.mem_of_getElem? (i := 1470) (by decide +kernel), List.mem_of_getElem? (i := 1934) (by decide +kernel), List.mem_of_getElem? (i := 1935) (by decide +kernel)⟩
theorem lw_p104 : lw_okq (⟨"PutOffParadeModel", "drawn", "(I)I"⟩, 20) := ⟨⟨by decide +kernel, by decide +kernel⟩, List.mem_of_getElem? (i := 1470) (by decide +kernel), List.mem_of_getElem? (i := 1938) (by decide +kernel), List.mem_of_getElem? (i := 1939) (by decide +kernel)⟩
theorem lw_p105 : lw_okq (⟨"PutOffParadeModel", "works", "(I)I"⟩, 20) := ⟨⟨by decide +kernel, by decide +kernel⟩, List.mem_of_getElem? (i := 1470) (by decide +kernel), List.mem_of_getElem? (i := 1943) (by decide +kernel), List.mem_of_getElem? (i := 1944) (by decide +kernel)⟩
theorem lw_p106 : lw_okq (⟨"PutOffParadeModel", "hasTool", "(II)Z"⟩, 20) := ⟨⟨by decide +kernel, by decide +kernel⟩, List.mem_of_getElem? (i := 1470) (by decide +kernel), List.mem_of_getElem? (i := 1947) (by decide +kernel), List.mem_of_getElem? (i := 1948) (by decide +kernel)⟩
theorem lw_p107 : lw_okq (⟨"PutOffParadeModel", "growsOlder", "(I)V"⟩, 20) := ⟨⟨by decide +kernel, by decide +kernel⟩, List.mem_of_getElem? (i := 1470) (by decide +kernel), List.mem_of_getElem? (i := 1951) (by decide +kernel), List.mem_of_getElem? (i := 1952) (by decide +kernel)⟩
theorem lw_p108 : lw_okq (⟨"PutOffParadeModel", "goesBy", "()V"⟩, 20) := ⟨⟨by decide +kernel, by decide +kernel⟩, List.mem_of_getElem? (i := 1470) (by decide +kernel), List.mem_of_getElem? (i := 1955) (by decide +kernel), List.mem_of_getElem? (i := 1956) (by decide +kernel)⟩
theorem lw_p109 : lw_okq (⟨"PutOffParadeModel", "tells", "(II)V"⟩, 20) := ⟨⟨by decide +kernel, by decide +kernel⟩, List.mem_of_getElem? (i := 1470) (by decide +kernel), List.mem_of_getElem? (i := 1959) (by decide +kernel), List.mem_of_getElem? (i := 1960) (by decide +kernel)⟩
theorem lw_p110 : lw_okq (⟨"PutOffParadeModel", "keepsAll", "()V"⟩, 20) := ⟨⟨by decide +kernel, by decide +kernel⟩, List.mem_of_getElem? (i := 1470) (by decide +kernel), List.mem_of_getElem? (i := 1970) (by decide +kernel), List.mem_of_getElem? (i := 1971) (by decide +kernel)⟩
theorem lw_p111 : lw_okq (⟨"PutOffParadeModel", "bringsBack", "()V"⟩, 20) := ⟨⟨by decide +kernel, by decide +kernel⟩, List.mem_of_getElem? (i := 1470) (by decide +kernel), List.mem_of_getElem? (i := 1974) (by decide +kernel), List.mem_of_getElem? (i := 1975) (by decide +kernel)⟩
def lw_privs_7 : List (MethodName × Nat) := [(⟨"PutOffParadeModel", "factOf", "(III)I"⟩, 20), (⟨"PutOffParadeModel", "growsBy", "(I)I"⟩, 20), (⟨"PutOffParadeModel", "remembers", "()V"⟩, 20), (⟨"PutOffParadeModel", "finishes", "(I)V"⟩, 20), (⟨"PutOffParadeModel", "isNow", "(II)V"⟩, 20), (⟨"PutOffParadeModel", "isForgotten", "(I)Z"⟩, 20), (⟨"PutOffParadeModel", "goesOn", "(IZ)I"⟩, 20), (⟨"PutOffParadeModel", "oneDay", "(Z)I"⟩, 20), (⟨"PutOffParadeModel", "drawn", "(I)I"⟩, 20), (⟨"PutOffParadeModel", "works", "(I)I"⟩, 20), (⟨"PutOffParadeModel", "hasTool", "(II)Z"⟩, 20), (⟨"PutOffParadeModel", "growsOlder", "(I)V"⟩, 20), (⟨"PutOffParadeModel", "goesBy", "()V"⟩, 20), (⟨"PutOffParadeModel", "tells", "(II)V"⟩, 20), (⟨"PutOffParadeModel", "keepsAll", "()V"⟩, 20), (⟨"PutOffParadeModel", "bringsBack", "()V"⟩, 20)]
theorem lw_r7 : ∀ q ∈ lw_privs_7, lw_okq q := List.forall_mem_cons.mpr ⟨lw_p96, List.forall_mem_cons.mpr ⟨lw_p97, List.forall_mem_cons.mpr ⟨lw_p98, List.forall_mem_cons.mpr ⟨lw_p99, List.forall_mem_cons.mpr ⟨lw_p100, List.forall_mem_cons.mpr ⟨lw_p101, List.forall_mem_cons.mpr ⟨lw_p102, List.forall_mem_cons.mpr ⟨lw_p103, List.forall_mem_cons.mpr ⟨lw_p104, List.forall_mem_cons.mpr ⟨lw_p105, List.forall_mem_cons.mpr ⟨lw_p106, List.forall_mem_cons.mpr ⟨lw_p107, List.forall_mem_cons.mpr ⟨lw_p108, List.forall_mem_cons.mpr ⟨lw_p109, List.forall_mem_cons.mpr ⟨lw_p110, List.forall_mem_cons.mpr ⟨lw_p111, fun _ h => absurd h List.not_mem_nil⟩⟩⟩⟩⟩⟩⟩⟩⟩⟩⟩⟩⟩⟩⟩⟩
theorem lw_p112 : lw_okq (⟨"PutOffParadeModel", "overIn", "(IZ)I"⟩, 20) := ⟨⟨by decide +kernel, by decide +kernel⟩, List.mem_of_getElem? (i := 1470) (by decide +kernel), List.mem_of_getElem? (i := 1982) (by decide +kernel), List.mem_of_getElem? (i := 1983) (by decide +kernel)⟩
theorem lw_p113 : lw_okq (⟨"PutOffParadeModel", "allOver", "()I"⟩, 20) := ⟨⟨by decide +kernel, by decide +kernel⟩, List.mem_of_getElem? (i := 1470) (by decide +kernel), List.mem_of_getElem? (i := 1994) (by decide +kernel), List.mem_of_getElem? (i := 1995) (by decide +kernel)⟩
theorem lw_p114 : lw_okq (⟨"PutOffParadeModel", "allDuties", "()I"⟩, 20) := ⟨⟨by decide +kernel, by decide +kernel⟩, List.mem_of_getElem? (i := 1470) (by decide +kernel), List.mem_of_getElem? (i := 1998) (by decide +kernel), List.mem_of_getElem? (i := 1999) (by decide +kernel)⟩
theorem lw_p115 : lw_okq (⟨"PutOffParadeModel", "overWith", "(II)I"⟩, 20) := ⟨⟨by decide +kernel, by decide +kernel⟩, List.mem_of_getElem? (i := 1470) (by decide +kernel), List.mem_of_getElem? (i := 2006) (by decide +kernel), List.mem_of_getElem? (i := 2007) (by decide +kernel)⟩
theorem lw_p116 : lw_okq (⟨"PutOffParadeModel", "ringOnes", "()I"⟩, 20) := ⟨⟨by decide +kernel, by decide +kernel⟩, List.mem_of_getElem? (i := 1470) (by decide +kernel), List.mem_of_getElem? (i := 2022) (by decide +kernel), List.mem_of_getElem? (i := 2023) (by decide +kernel)⟩
theorem lw_p117 : lw_okq (⟨"PutOffParadeModel", "beforeOf", "(I)I"⟩, 20) := ⟨⟨by decide +kernel, by decide +kernel⟩, List.mem_of_getElem? (i := 1470) (by decide +kernel), List.mem_of_getElem? (i := 2026) (by decide +kernel), List.mem_of_getElem? (i := 2027) (by decide +kernel)⟩
theorem lw_p118 : lw_okq (⟨"PutOffParadeModel", "soonOf", "(I)I"⟩, 20) := ⟨⟨by decide +kernel, by decide +kernel⟩, List.mem_of_getElem? (i := 1470) (by decide +kernel), List.mem_of_getElem? (i := 2046) (by decide +kernel), List.mem_of_getElem? (i := 2047) (by decide +kernel)⟩
theorem lw_p119 : lw_okq (⟨"PutOffParadeModel", "chainOf", "(I)I"⟩, 20) := ⟨⟨by decide +kernel, by decide +kernel⟩, List.mem_of_getElem? (i := 1470) (by decide +kernel), List.mem_of_getElem? (i := 2050) (by decide +kernel), List.mem_of_getElem? (i := 2051) (by decide +kernel)⟩
theorem lw_p120 : lw_okq (⟨"PutOffParadeModel", "olderOnes", "(I)I"⟩, 20) := ⟨⟨by decide +kernel, by decide +kernel⟩, List.mem_of_getElem? (i := 1470) (by decide +kernel), List.mem_of_getElem? (i := 2062) (by decide +kernel), List.mem_of_getElem? (i := 2063) (by decide +kernel)⟩
theorem lw_p121 : lw_okq (⟨"PutOffParadeModel", "toDo", "(I)I"⟩, 20) := ⟨⟨by decide +kernel, by decide +kernel⟩, List.mem_of_getElem? (i := 1470) (by decide +kernel), List.mem_of_getElem? (i := 2074) (by decide +kernel), List.mem_of_getElem? (i := 2075) (by decide +kernel)⟩
theorem lw_p122 : lw_okq (⟨"PutOffParadeModel", "leanWithin", "(I)Z"⟩, 20) := ⟨⟨by decide +kernel, by decide +kernel⟩, List.mem_of_getElem? (i := 1470) (by decide +kernel), List.mem_of_getElem? (i := 2078) (by decide +kernel), List.mem_of_getElem? (i := 2079) (by decide +kernel)⟩
theorem lw_p123 : lw_okq (⟨"PutOffParadeModel", "isTold", "()Z"⟩, 20) := ⟨⟨by decide +kernel, by decide +kernel⟩, List.mem_of_getElem? (i := 1470) (by decide +kernel), List.mem_of_getElem? (i := 2086) (by decide +kernel), List.mem_of_getElem? (i := 2087) (by decide +kernel)⟩
theorem lw_p124 : lw_okq (⟨"PutOffParadeModel", "allThatFit", "()I"⟩, 20) := ⟨⟨by decide +kernel, by decide +kernel⟩, List.mem_of_getElem? (i := 1470) (by decide +kernel), List.mem_of_getElem? (i := 2090) (by decide +kernel), List.mem_of_getElem? (i := 2091) (by decide +kernel)⟩
theorem lw_p125 : lw_okq (⟨"PutOffParadeModel", "isGap", "(I)Z"⟩, 20) := ⟨⟨by decide +kernel, by decide +kernel⟩, List.mem_of_getElem? (i := 1470) (by decide +kernel), List.mem_of_getElem? (i := 2102) (by decide +kernel), List.mem_of_getElem? (i := 2103) (by decide +kernel)⟩
theorem lw_p126 : lw_okq (⟨"PutOffParadeModel", "serves", "(IIII)Z"⟩, 20) := ⟨⟨by decide +kernel, by decide +kernel⟩, List.mem_of_getElem? (i := 1470) (by decide +kernel), List.mem_of_getElem? (i := 2118) (by decide +kernel), List.mem_of_getElem? (i := 2119) (by decide +kernel)⟩
theorem lw_p127 : lw_okq (⟨"PutOffParadeModel", "hasBy", "(III)I"⟩, 20) := ⟨⟨by decide +kernel, by decide +kernel⟩, List.mem_of_getElem? (i := 1470) (by decide +kernel), List.mem_of_getElem? (i := 2126) (by decide +kernel), List.mem_of_getElem? (i := 2127) (by decide +kernel)⟩
def lw_privs_8 : List (MethodName × Nat) := [(⟨"PutOffParadeModel", "overIn", "(IZ)I"⟩, 20), (⟨"PutOffParadeModel", "allOver", "()I"⟩, 20), (⟨"PutOffParadeModel", "allDuties", "()I"⟩, 20), (⟨"PutOffParadeModel", "overWith", "(II)I"⟩, 20), (⟨"PutOffParadeModel", "ringOnes", "()I"⟩, 20), (⟨"PutOffParadeModel", "beforeOf", "(I)I"⟩, 20), (⟨"PutOffParadeModel", "soonOf", "(I)I"⟩, 20), (⟨"PutOffParadeModel", "chainOf", "(I)I"⟩, 20), (⟨"PutOffParadeModel", "olderOnes", "(I)I"⟩, 20), (⟨"PutOffParadeModel", "toDo", "(I)I"⟩, 20), (⟨"PutOffParadeModel", "leanWithin", "(I)Z"⟩, 20), (⟨"PutOffParadeModel", "isTold", "()Z"⟩, 20), (⟨"PutOffParadeModel", "allThatFit", "()I"⟩, 20), (⟨"PutOffParadeModel", "isGap", "(I)Z"⟩, 20), (⟨"PutOffParadeModel", "serves", "(IIII)Z"⟩, 20), (⟨"PutOffParadeModel", "hasBy", "(III)I"⟩, 20)]
theorem lw_r8 : ∀ q ∈ lw_privs_8, lw_okq q := List.forall_mem_cons.mpr ⟨lw_p112, List.forall_mem_cons.mpr ⟨lw_p113, List.forall_mem_cons.mpr ⟨lw_p114, List.forall_mem_cons.mpr ⟨lw_p115, List.forall_mem_cons.mpr ⟨lw_p116, List.forall_mem_cons.mpr ⟨lw_p117, List.forall_mem_cons.mpr ⟨lw_p118, List.forall_mem_cons.mpr ⟨lw_p119, List.forall_mem_cons.mpr ⟨lw_p120, List.forall_mem_cons.mpr ⟨lw_p121, List.forall_mem_cons.mpr ⟨lw_p122, List.forall_mem_cons.mpr ⟨lw_p123, List.forall_mem_cons.mpr ⟨lw_p124, List.forall_mem_cons.mpr ⟨lw_p125, List.forall_mem_cons.mpr ⟨lw_p126, List.forall_mem_cons.mpr ⟨lw_p127, fun _ h => absurd h List.not_mem_nil⟩⟩⟩⟩⟩⟩⟩⟩⟩⟩⟩⟩⟩⟩⟩⟩
theorem lw_p128 : lw_okq (⟨"PutOffParadeModel", "oddsOf", "(III)I"⟩, 20) := ⟨⟨by decide +kernel, by decide +kernel⟩, List.mem_of_getElem? (i := 1470) (by decide +kernel), List.mem_of_getElem? (i := 2150) (by decide +kernel), List.mem_of_getElem? (i := 2151) (by decide +kernel)⟩
theorem lw_p129 : lw_okq (⟨"PutOffParadeModel", "ofLog", "(II)I"⟩, 20) := ⟨⟨by decide +kernel, by decide +kernel⟩, List.mem_of_getElem? (i := 1470) (by decide +kernel), List.mem_of_getElem? (i := 2172) (by decide +kernel), List.mem_of_getElem? (i := 2173) (by decide +kernel)⟩
theorem lw_p130 : lw_okq (⟨"PutOffParadeModel", "readyOnes", "()I"⟩, 20) := ⟨⟨by decide +kernel, by decide +kernel⟩, List.mem_of_getElem? (i := 1470) (by decide +kernel), List.mem_of_getElem? (i := 2188) (by decide +kernel), List.mem_of_getElem? (i := 2189) (by decide +kernel)⟩
def lw_privs_9 : List (MethodName × Nat) := [(⟨"PutOffParadeModel", "oddsOf", "(III)I"⟩, 20), (⟨"PutOffParadeModel", "ofLog", "(II)I"⟩, 20), (⟨"PutOffParadeModel", "readyOnes", "()I"⟩, 20)]
theorem lw_r9 : ∀ q ∈ lw_privs_9, lw_okq q := List.forall_mem_cons.mpr ⟨lw_p128, List.forall_mem_cons.mpr ⟨lw_p129, List.forall_mem_cons.mpr ⟨lw_p130, fun _ h => absurd h List.not_mem_nil⟩⟩⟩
def lw_privs : List (MethodName × Nat) := lw_privs_1 ++ (lw_privs_2 ++ (lw_privs_3 ++ (lw_privs_4 ++ (lw_privs_5 ++ (lw_privs_6 ++ (lw_privs_7 ++ (lw_privs_8 ++ (lw_privs_9))))))))
def lw_tbl : List Cond := k2_sels lw_privs ++ tables_1
theorem lw_privs_ok : ∀ q ∈ lw_privs, lw_okq q := by
  show ∀ q ∈ lw_privs_1 ++ (lw_privs_2 ++ (lw_privs_3 ++ (lw_privs_4 ++ (lw_privs_5 ++ (lw_privs_6 ++ (lw_privs_7 ++ (lw_privs_8 ++ (lw_privs_9)))))))), lw_okq q
  exact List.forall_mem_append.mpr ⟨lw_r1, List.forall_mem_append.mpr ⟨lw_r2, List.forall_mem_append.mpr ⟨lw_r3, List.forall_mem_append.mpr ⟨lw_r4, List.forall_mem_append.mpr ⟨lw_r5, List.forall_mem_append.mpr ⟨lw_r6, List.forall_mem_append.mpr ⟨lw_r7, List.forall_mem_append.mpr ⟨lw_r8, lw_r9⟩⟩⟩⟩⟩⟩⟩⟩
-- ===== end of PART A; then your names; then what follows =====
/-! ===== BEGIN words of one list among another's, by their places ===== -/
theorem goodIn_r {big : List Cond} (ws : List Cond) (ps : List Nat) (hp : ws = ps.filterMap (fun i => big[i]?)) (h : ws.all goodWord = true) : GoodIn big ws := by
  intro w hw
  have h1 := List.all_eq_true.mp h w hw
  rw [hp] at hw
  obtain ⟨i, -, hi⟩ := List.mem_filterMap.mp hw
  have hm : w ∈ big := by first | exact List.mem_of_getElem? hi | exact List.getElem?_mem hi
  exact ⟨hm, good_of_word h1⟩
theorem goodIn_app {big a b : List Cond} (ha : GoodIn big a) (hb : GoodIn big b) : GoodIn big (a ++ b) := fun w h => (List.mem_append.mp h).elim (ha w) (hb w)
theorem goodIn_ca {big a b : List Cond} {c : Cond} (ha : GoodIn big (c :: a)) (hb : GoodIn big b) : GoodIn big (c :: (a ++ b)) := fun w h => (List.mem_cons.mp h).elim (fun e => ha w (List.mem_cons.mpr (Or.inl e))) (fun h => (List.mem_append.mp h).elim (fun h => ha w (List.mem_cons.mpr (Or.inr h))) (hb w))
theorem goodIn_sub {big ws : List Cond} (hm : ∀ w ∈ ws, w ∈ big) (h : ws.all goodWord = true) : GoodIn big ws := fun w hw => ⟨hm w hw, good_of_word (List.all_eq_true.mp h w hw)⟩
/-! ===== END ===== -/

/-! ===== BEGIN exceptions that leave a method, and their catching by the caller (launches without stack traces) ===== -/
section VXA
/-! The laws vx_back, vx_callV, vx_callS, vx_callSW, vx_throw0, vx_throwS follow proofs of the library, with one case more: JvmDerived/Free/Laws.lean (Back.of_free), Shelf42/LK1.lean (callV, callS), Shelf/KitTraced.lean (throwNew0V, throwNewS). -/
/-- where a method has thrown q: the class by its name, the cell, what was written, the world -/
def vx_T (XC : String → State → State → Prop) (st : State) (q : Addr) (t : State) (mc ms : Nat) (free : Addr → Prop) : Prop :=
  ∃ (E : String) (ce : Cell) (L : List Loc), XC E st t ∧ t.heap[q]? = some ce ∧ ce.vm = .none ∧ st.vm.findClass E = some ce.cls ∧ st.WarmedH t.vm ∧ st.sameButNew ({ t with vm := st.vm } : State) L mc ms ∧ ∀ z ∈ L, free z.base
def vx_Q (Qc : Array Value → State → Outcome → State → Prop) (XC : String → State → State → Prop) (mc ms : Nat) (free : Addr → Prop) : Array Value → State → Outcome → State → Prop := fun a st o t =>
  (Qc a st o t ∧ ∃ L, FrameEnd st o t L mc ms ∧ ∀ q ∈ L, free q.base) ∨ ∃ q, o = .threw q ∧ vx_T XC st q t mc ms free
/-- a callee that returns or throws -/
def vx_Met (l : Launch) (y : MethodName) (ws : List Cond) (rm : Room) (Pc : Array Value → State → Prop) (Qc : Array Value → State → Outcome → State → Prop) (XC : String → State → State → Prop) (mc ms : Nat) (free : Addr → Prop) : Prop :=
  MetFree l y (headSpec ws rm) Pc (fun _ _ _ _ _ => True) (vx_Q Qc XC mc ms free)
def vx_Post (XC : String → State → State → Prop) (mc ms : Nat) (free : Addr → Prop) : Pt → Array Value → Addr → Pt → Prop := fun A a q B =>
  ∃ (g : JFrame) (mk : MethodId) (t : State) (L : List Loc) (E : String) (ce : Cell), B.U.heap = t.heap ∧ B.U.vm = t.vm ∧ XC E (A.U.calling g mk a) t ∧ t.heap[q]? = some ce ∧ ce.vm = .none ∧ A.U.vm.findClass E = some ce.cls ∧ B.locs = A.locs ++ L ∧ (∀ z ∈ L, free z.base) ∧ B.cells = A.cells + mc ∧ B.slots = A.slots + ms
def vx_Back (l : Launch) (R : Room) (p : Program) (e : Env) (below : List Frame) (s : State) (sargs : Array Value) (y : MethodName) (len W9 : Nat)
    (Pre : Pt → Array Value → Prop) (Post : Pt → Array Value → Option Value → Pt → Prop) (PostX : Pt → Array Value → Addr → Pt → Prop) : Prop :=
  ∀ (m : MethodId) (meth : Method) (c : Code) (A : Pt) (g : JFrame) (ig : Instr) (mk : MethodId) (a : Array Value),
    Stand p l e R s m sargs below meth c A.U A.locs A.cells A.slots → g.method = m → g.locals.size = c.maxLocals → decode c.code g.pc = .ok (ig, len) →
    2 * g.monitorRoom + (g.stack.map fun v => v.category).sum ≤ W9 → A.U.methodNamed? y = some mk → Pre A a →
    (∃ (v : Option Value) (B : Pt), Stand p l e R s m sargs below meth c B.U B.locs B.cells B.slots ∧ Post A a v B ∧
      Steps p.tables e below (doInvoke e (A.U.setTop g) [] mk a).1 (B.U.setTop { g with pc := g.pc + len, stack := v.toList ++ g.stack })) ∨
    (∃ (q : Addr) (B : Pt), Stand p l e R s m sargs below meth c B.U B.locs B.cells B.slots ∧ PostX A a q B ∧
      Steps p.tables e below (doInvoke e (A.U.setTop g) [] mk a).1 ((B.U.setTop g).pushFrame (.throwing q)))
section Payer
variable {l : Launch} {R : Room} {p : Program} {e : Env} {below : List Frame} {s : State} {sargs : Array Value} {y : MethodName} {len W9 : Nat}
theorem vx_back {ws : List Cond} {rm : Room} {Pc : Array Value → State → Prop} {Qc : Array Value → State → Outcome → State → Prop} {XC : String → State → State → Prop} {mc ms : Nat} {free : Addr → Prop} {bytes : ByteArray} {maxL : Nat} {ret : Option FieldType}
    (hM : vx_Met l y ws rm Pc Qc XC mc ms free) (hblind : FrameBlind Pc) (hrc : rm.cells = mc) (hrs : rm.slots = ms)
    (hframes : rm.frames + 1 ≤ R.frames) (hlocals : W9 + (maxL + 11) + rm.locals ≤ R.locals)
    (hws : ∀ w ∈ ws, ∀ a' U, s.WarmedH U.vm → w.before a' U = true) (hcode : Cond.code y bytes maxL ret ∈ ws) (hinit : ∀ a' U, s.WarmedH U.vm → (Cond.initialized y.cls).before a' U = true) :
    vx_Back l R p e below s sargs y len W9 (PreOf R mc ms Pc) (PostOf Qc mc ms free) (vx_Post XC mc ms free) := by
  intro m meth c A g ig mk a X hg hsize hdg hW hn hp
  have h1 : (headSpec ws rm).pre.before a A.U = true := atoms_intro fun w hw => hws w hw _ _ X.warmed
  have h2 : (Cond.code y bytes maxL ret).before a A.U = true := hws _ hcode _ _ X.warmed
  have h3 : (Cond.initialized y.cls).before a A.U = true := hinit _ _ X.warmed
  have h4 : A.cells + (headSpec ws rm).room.cells ≤ R.cells := by rw [show (headSpec ws rm).room.cells = mc from hrc]; exact hp.1
  have h5 : A.slots + (headSpec ws rm).room.slots ≤ R.slots := by rw [show (headSpec ws rm).room.slots = ms from hrs]; exact hp.2.1
  have hPc : Pc a (A.U.calling g mk a) := hblind _ _ _ _ hp.2.2
  obtain ⟨U, Ls, c0, s0⟩ := A
  dsimp only [Pt.U, Pt.locs, Pt.cells, Pt.slots] at h1 h2 h3 h4 h5 X hn hPc ⊢
  obtain ⟨methY, cY, hmY, hcY, -, hlY, -, -, -, -⟩ := Cond.code_spec hn h2
  obtain ⟨kY, hkY, -⟩ := className_of_methodNamed hn
  have hinitY : kY.init = .initialized := Cond.initialized_spec (findClass_of_methodNamed hn) hkY h3
  have h : At U g.method c below := by rw [hg]; exact X.here
  have hlocals9 : W9 + (maxL + 11) + (headSpec ws rm).room.locals ≤ R.locals := hlocals
  have happ : (headSpec ws rm).appliesLoose y e.platform (U.calling g mk a) = true :=
    Spec.appliesLoose_calling (g := g) h hdg hn hkY hinitY
      (X.room_calling (g := g) (R' := (headSpec ws rm).room) hsize hmY hcY hframes (by rw [hlY]; omega) h4 h5) h1
  obtain ⟨mid, hmid⟩ := h.above
  have hfr : (U.setTop g).frames = (.java g :: mid) ++ below := by rw [State.frames_setTop' g h.top, hmid]; rfl
  obtain ⟨o, s₂, hsteps, -, hend, hq⟩ := Steps.callFree hM p X.admits X.cas X.clock (acts := []) hfr happ hPc trivial
  have hq' : vx_Q Qc XC mc ms free a (U.calling g mk a) o s₂ := hq
  rw [State.frames_setTop' g h.top] at hend
  obtain ⟨g₀, hg0⟩ := Option.isSome_iff_exists.mp h.top
  obtain ⟨r, hr⟩ := State.topJava?_eq_some.mp hg0
  have hr' : (({ U with heap := s₂.heap, slotsUsed := s₂.slotsUsed } : State).setVm s₂.vm).frames = .java g₀ :: r := hr
  rcases hq' with ⟨hqc, L, hfe, hL⟩ | ⟨q, rfl, E, ce, L, hx, hce, hcv, hcl, hW₂, hsm, hL⟩
  · obtain ⟨⟨v, rfl⟩, hW₂, e2, q2, q3, q4, q5, q6⟩ := id hfe
    have e3 : s₂ = ({ (U.calling g mk a).setFrames s₂.frames with heap := s₂.heap, slotsUsed := s₂.slotsUsed } : State).setVm s₂.vm := by
      have : s₂ = ({ s₂ with vm := (U.calling g mk a).vm } : State).setVm s₂.vm := rfl
      rw [e2] at this
      exact this
    obtain ⟨c₂, i₂, len₂, hc₂, hd₂, hf₂⟩ := hend
    have hW' : U.WarmedH s₂.vm := hW₂
    have hcc : c₂ = c := by
      have h1 : s₂.code? g.method = U.code? g.method := by
        rw [State.code?_eq, State.code?_eq, hW'.alike.method?]
      exact Option.some.inj (hc₂.symm.trans (h1.trans h.code))
    subst hcc
    have hlen : len₂ = len := by rw [hdg] at hd₂; cases hd₂; rfl
    subst hlen
    have hs₂ : s₂ = (({ U with heap := s₂.heap, slotsUsed := s₂.slotsUsed } : State).setVm s₂.vm).setTop { g with pc := g.pc + len₂, stack := v.toList ++ g.stack } := by
      refine e3.trans ?_
      rw [hf₂, State.calling_eq h.top, State.setFrames_setFrames, State.setTop_of_frames _ hr', hr]
      rfl
    have hsame : U.sameButNew ({ U with heap := s₂.heap, slotsUsed := s₂.slotsUsed } : State) L mc ms := by
      refine ⟨?_, q2, q3, q4, q5, q6⟩
      obtain ⟨t, ht, -⟩ := State.frames_cons hr
      show ({ U with heap := s₂.heap, slotsUsed := s₂.slotsUsed } : State) = { U.setFrames U.frames with heap := s₂.heap, slotsUsed := s₂.slotsUsed }
      rw [State.setFrames_self ht]
    subst hg
    refine Or.inl ⟨v, ⟨(({ U with heap := s₂.heap, slotsUsed := s₂.slotsUsed } : State).setVm s₂.vm), Ls ++ L, c0 + mc, s0 + ms⟩,
      ⟨X.admits, X.cas, X.clock, X.frames, X.room, X.hears, X.method, X.code, (X.here.setHeapUsed s₂.heap s₂.slotsUsed).setVm hW'.alike, X.tail, State.WarmedH.trans X.warmed hW', X.limits, X.bytes, X.same.trans (hsame.setVm s.vm)⟩,
      ⟨g, mk, s₂, L, rfl, rfl, hqc, rfl, hL, rfl, rfl⟩, ?_⟩
    show Steps p.tables e below _ ((({ U with heap := s₂.heap, slotsUsed := s₂.slotsUsed } : State).setVm s₂.vm).setTop { g with pc := g.pc + len₂, stack := v.toList ++ g.stack })
    rw [← hs₂]
    exact hsteps
  · obtain ⟨e2, q2, q3, q4, q5, q6⟩ := id hsm
    have e3 : s₂ = ({ (U.calling g mk a).setFrames s₂.frames with heap := s₂.heap, slotsUsed := s₂.slotsUsed } : State).setVm s₂.vm := by
      have : s₂ = ({ s₂ with vm := (U.calling g mk a).vm } : State).setVm s₂.vm := rfl
      rw [e2] at this
      exact this
    have hf₂ : s₂.frames = .throwing q :: .java g :: U.frames.tail := hend
    have hW' : U.WarmedH s₂.vm := hW₂
    have hs₂ : s₂ = ((({ U with heap := s₂.heap, slotsUsed := s₂.slotsUsed } : State).setVm s₂.vm).setTop g).pushFrame (.throwing q) := by
      refine e3.trans ?_
      rw [hf₂, State.calling_eq h.top, State.setFrames_setFrames, State.pushFrame, State.frames_setTop _ hr', State.setTop_of_frames _ hr', State.setFrames_setFrames, hr]
      rfl
    have hsame : U.sameButNew ({ U with heap := s₂.heap, slotsUsed := s₂.slotsUsed } : State) L mc ms := by
      refine ⟨?_, q2, q3, q4, q5, q6⟩
      obtain ⟨t, ht, -⟩ := State.frames_cons hr
      show ({ U with heap := s₂.heap, slotsUsed := s₂.slotsUsed } : State) = { U.setFrames U.frames with heap := s₂.heap, slotsUsed := s₂.slotsUsed }
      rw [State.setFrames_self ht]
    subst hg
    refine Or.inr ⟨q, ⟨(({ U with heap := s₂.heap, slotsUsed := s₂.slotsUsed } : State).setVm s₂.vm), Ls ++ L, c0 + mc, s0 + ms⟩,
      ⟨X.admits, X.cas, X.clock, X.frames, X.room, X.hears, X.method, X.code, (X.here.setHeapUsed s₂.heap s₂.slotsUsed).setVm hW'.alike, X.tail, State.WarmedH.trans X.warmed hW', X.limits, X.bytes, X.same.trans (hsame.setVm s.vm)⟩,
      ⟨g, mk, s₂, L, E, ce, rfl, rfl, hx, hce, hcv, hcl, rfl, hL, rfl, rfl⟩, ?_⟩
    show Steps p.tables e below _ (((({ U with heap := s₂.heap, slotsUsed := s₂.slotsUsed } : State).setVm s₂.vm).setTop g).pushFrame (.throwing q))
    rw [← hs₂]
    exact hsteps
end Payer
section Calls
variable {p : Program} {l : Launch} {e : Env} {R : Room} {s : State} {m : MethodId} {args : Array Value} {below : List Frame} {meth : Method} {c : Code} {T : State} {locs : List Loc} {cells slots : Nat}
theorem vx_callV (X : Stand p l e R s m args below meth c T locs cells slots) (hexec : p.tables.exec = Jvm.exec) {own C : String} {index : Nat} {y : MethodName} {bytes : ByteArray} {maxL : Nat} {ret : Option FieldType}
    (hown : s.vm.findClass own = some m.cls) (hlink : (Cond.methodLink own index y).before args s = true) (hinst : (Cond.instanceMethod y).before args s = true) (hsel : (Cond.selects C y y).before args s = true)
    (hcode : (Cond.code y bytes maxL ret).before args s = true) (hy : y.cls ≠ "java/lang/invoke/MethodHandle" ∧ y.cls ≠ "java/lang/invoke/VarHandle")
    {W9 : Nat} {Pre : Pt → Array Value → Prop} {Post : Pt → Array Value → Option Value → Pt → Prop} {PostX : Pt → Array Value → Addr → Pt → Prop} (hK : vx_Back l R p e below s args y 3 W9 Pre Post PostX)
    {b : Addr} {cellB : Cell} (hcell : T.heap[b]? = some cellB) (hobj : cellB.vm.isStatics = false) (hcls : s.vm.findClass C = some cellB.cls)
    {g : JFrame} (hg : g.method = m) (hsize : g.locals.size = c.maxLocals) {argsL rest : List Value} (hlen : ∀ sig, parseMethodDescriptor y.desc = some sig → argsL.length = sig.parameters.length)
    (hstack : g.stack = argsL.reverse ++ .ref b :: rest) (hW : 2 * g.monitorRoom + (rest.map fun v => v.category).sum ≤ W9) (hdg : decode c.code g.pc = .ok (.invokevirtual index, 3))
    (hpre : ∀ vm₁, s.WarmedH vm₁ → Pre ⟨T.setVm vm₁, locs, cells, slots⟩ (Value.ref b :: argsL).toArray) :
    (∃ (v : Option Value) (vm₁ : Vm) (B : Pt), s.WarmedH vm₁ ∧ Stand p l e R s m args below meth c B.U B.locs B.cells B.slots ∧ Post ⟨T.setVm vm₁, locs, cells, slots⟩ (Value.ref b :: argsL).toArray v B ∧
      ∀ target, Steps p.tables e below (B.U.setTop { g with pc := g.pc + 3, stack := v.toList ++ rest }) target → Steps p.tables e below (T.setTop g) target) ∨
    (∃ (q : Addr) (vm₁ : Vm) (B : Pt), s.WarmedH vm₁ ∧ Stand p l e R s m args below meth c B.U B.locs B.cells B.slots ∧ PostX ⟨T.setVm vm₁, locs, cells, slots⟩ (Value.ref b :: argsL).toArray q B ∧
      Steps p.tables e below (T.setTop g) ((B.U.setTop { g with stack := rest }).pushFrame (.throwing q))) := by
  obtain ⟨mk, methM, hnamed, hmethM, hstM, habM⟩ := Cond.instanceMethod_spec hinst
  obtain ⟨methM', cM, hmethM', -, -, -, -, -, -, hsigM⟩ := Cond.code_spec hnamed hcode
  cases hmethM.symm.trans hmethM'
  obtain ⟨c2, r2, m2, q1, q2, q3, q4, kP, hkP, hkPi⟩ := Cond.selects_spec hsel
  cases hcls.symm.trans q1
  cases (State.methodFound?_of_named hnamed hy).symm.trans q2
  cases hnamed.symm.trans q3
  have hselP : selectMethod e.platform s.vm cellB.cls mk = .method mk := by rw [Launch.admits_selectMethod X.admits]; exact q4
  obtain ⟨vm₁, X₁, hstep₁⟩ := X.invokevirtual hexec hown hlink hnamed hmethM hstM hkP hkPi hy (a := b) (cell := cellB) hcell
    (fun z h => by rw [h] at hobj; cases hobj) hselP hmethM habM hkP hkPi (g := g) hg (argsL := argsL) (rest := rest) (hlen _ hsigM) hstack hdg
  rcases hK m meth c ⟨T.setVm vm₁, locs, cells, slots⟩ { g with stack := rest } (.invokevirtual index) mk (Value.ref b :: argsL).toArray X₁ hg hsize hdg hW (X₁.named hnamed) (hpre vm₁ X₁.warmed) with ⟨v, B, X', hpost, hsteps⟩ | ⟨q, B, X', hpost, hsteps⟩
  · exact Or.inl ⟨v, vm₁, B, X₁.warmed, X', hpost, fun target h => hstep₁ _ fun acts => by rw [doInvoke_state]; exact hsteps.trans h⟩
  · exact Or.inr ⟨q, vm₁, B, X₁.warmed, X', hpost, hstep₁ _ fun acts => by rw [doInvoke_state]; exact hsteps⟩
theorem vx_callS (X : Stand p l e R s m args below meth c T locs cells slots) (hexec : p.tables.exec = Jvm.exec) {own : String} {index : Nat} {y : MethodName} {bytes : ByteArray} {maxL : Nat} {ret : Option FieldType}
    (hown : s.vm.findClass own = some m.cls) (hlink : (Cond.methodLink own index y).before args s = true) (hstat : (Cond.static y).before args s = true) (hinit : (Cond.initialized y.cls).before args s = true)
    (hcode : (Cond.code y bytes maxL ret).before args s = true) (hy : y.cls ≠ "java/lang/invoke/MethodHandle" ∧ y.cls ≠ "java/lang/invoke/VarHandle")
    {W9 : Nat} {Pre : Pt → Array Value → Prop} {Post : Pt → Array Value → Option Value → Pt → Prop} {PostX : Pt → Array Value → Addr → Pt → Prop} (hK : vx_Back l R p e below s args y 3 W9 Pre Post PostX)
    {g : JFrame} (hg : g.method = m) (hsize : g.locals.size = c.maxLocals) {argsL rest : List Value} (hlen : ∀ sig, parseMethodDescriptor y.desc = some sig → argsL.length = sig.parameters.length)
    (hstack : g.stack = argsL.reverse ++ rest) (hW : 2 * g.monitorRoom + (rest.map fun v => v.category).sum ≤ W9) (hdg : decode c.code g.pc = .ok (.invokestatic index, 3))
    (hpre : ∀ vm₁, s.WarmedH vm₁ → Pre ⟨T.setVm vm₁, locs, cells, slots⟩ argsL.toArray) :
    (∃ (v : Option Value) (vm₁ : Vm) (B : Pt), s.WarmedH vm₁ ∧ Stand p l e R s m args below meth c B.U B.locs B.cells B.slots ∧ Post ⟨T.setVm vm₁, locs, cells, slots⟩ argsL.toArray v B ∧
      ∀ target, Steps p.tables e below (B.U.setTop { g with pc := g.pc + 3, stack := v.toList ++ rest }) target → Steps p.tables e below (T.setTop g) target) ∨
    (∃ (q : Addr) (vm₁ : Vm) (B : Pt), s.WarmedH vm₁ ∧ Stand p l e R s m args below meth c B.U B.locs B.cells B.slots ∧ PostX ⟨T.setVm vm₁, locs, cells, slots⟩ argsL.toArray q B ∧
      Steps p.tables e below (T.setTop g) ((B.U.setTop { g with stack := rest }).pushFrame (.throwing q))) := by
  obtain ⟨mk, hnamed⟩ := Cond.code_named hcode
  obtain ⟨methM, cM, hmethM, -, -, -, -, -, -, hsigM⟩ := Cond.code_spec hnamed hcode
  have hstatic : methM.isStatic = true := Cond.static_spec hnamed hmethM hstat
  obtain ⟨kP, hkP, -⟩ := className_of_methodNamed hnamed
  have hinitP : kP.init = .initialized := Cond.initialized_spec (findClass_of_methodNamed hnamed) hkP hinit
  obtain ⟨vm₁, X₁, hstep₁⟩ := X.invokestatic hexec hown hlink hnamed hmethM hstatic hkP hinitP hy (g := g) hg (argsL := argsL) (rest := rest) (hlen _ hsigM) hstack hdg
  rcases hK m meth c ⟨T.setVm vm₁, locs, cells, slots⟩ { g with stack := rest } (.invokestatic index) mk argsL.toArray X₁ hg hsize hdg hW (X₁.named hnamed) (hpre vm₁ X₁.warmed) with ⟨v, B, X', hpost, hsteps⟩ | ⟨q, B, X', hpost, hsteps⟩
  · exact Or.inl ⟨v, vm₁, B, X₁.warmed, X', hpost, fun target h => hstep₁ _ fun acts => by rw [doInvoke_state]; exact hsteps.trans h⟩
  · exact Or.inr ⟨q, vm₁, B, X₁.warmed, X', hpost, hstep₁ _ fun acts => by rw [doInvoke_state]; exact hsteps⟩
end Calls
theorem vx_cls {s : State} {T : State} {vm₁ : Vm} {E : String} {k : ClassId} (hW : s.WarmedH vm₁) (h : (T.setVm vm₁).vm.findClass E = some k) : s.vm.findClass E = some k := by
  have h1 : vm₁.findClass E = some k := h
  rw [hW.alike.findClass] at h1
  exact h1
/-- the method's frame g, with q thrown over it -/
def vx_W (p : Program) (l : Launch) (e : Env) (R : Room) (s : State) (m : MethodId) (args : Array Value) (below : List Frame) (meth : Method) (c : Code) (H : Heap) (locs : List Loc) (cells slots : Nat) (Q : State → Prop) (g : JFrame) (q : Addr) : Prop :=
  ∀ T : State, T.heap = H → Stand p l e R s m args below meth c T locs cells slots → ∃ t, Steps p.tables e below ((T.setTop g).pushFrame (.throwing q)) t ∧ Q t
def vx_Run (p : Program) (l : Launch) (e : Env) (R : Room) (s : State) (m : MethodId) (args : Array Value) (below : List Frame) (meth : Method) (c : Code) (H : Heap) (locs : List Loc) (cells slots mc ms : Nat) (g : JFrame) (rest : List Value) (Qa : State → Outcome → State → Prop) (XC : String → State → State → Prop) (free : Addr → Prop) : Prop :=
  ∀ T : State, T.heap = H → Stand p l e R s m args below meth c T locs cells slots →
    (∃ (v : Option Value) (st₀ t T' : State) (L : List Loc), st₀.heap = H ∧ Stand p l e R s m args below meth c T' (locs ++ L) (cells + mc) (slots + ms) ∧ (∀ q ∈ L, free q.base) ∧ T'.heap = t.heap ∧ T'.vm = t.vm ∧ Qa st₀ (.returned v) t ∧
      Goes p e below T g T' { g with pc := g.pc + 3, stack := v.toList ++ rest }) ∨
    (∃ (q : Addr) (st₀ t T' : State) (L : List Loc) (E : String) (ce : Cell), st₀.heap = H ∧ Stand p l e R s m args below meth c T' (locs ++ L) (cells + mc) (slots + ms) ∧ (∀ z ∈ L, free z.base) ∧ T'.heap = t.heap ∧ T'.vm = t.vm ∧ XC E st₀ t ∧ t.heap[q]? = some ce ∧ ce.vm = .none ∧ s.vm.findClass E = some ce.cls ∧
      Steps p.tables e below (T.setTop g) ((T'.setTop { g with stack := rest }).pushFrame (.throwing q)))
def vx_X {S : Type} (px : S → Prop) (B : String → S → State → Prop) (A : Nat → Prop) : String → State → State → Prop := fun E st t => ∃ u : S, px u ∧ B E u t ∧ va_F A st t
section Runs
variable {p : Program} {l : Launch} {e : Env} {R : Room} {s : State} {m : MethodId} {args : Array Value} {below : List Frame} {meth : Method} {c : Code} {H : Heap} {locs : List Loc} {cells slots : Nat}
variable {y : MethodName} {bytes cc : ByteArray} {maxL nL mc ms n index : Nat} {ret : Option FieldType} {ws : List Cond} {rm : Room} {Pc : Array Value → State → Prop} {Qc : Array Value → State → Outcome → State → Prop} {XC : String → State → State → Prop} {free : Addr → Prop} {Ts : List Cond} {own C : String} {b : Addr} {As rest : List Value} {g : JFrame}
theorem vx_callBack (cb : CallB R s args own index y bytes maxL ret ws rm mc ms n) (hM : vx_Met l y ws rm Pc Qc XC mc ms free) (hbl : FrameBlind Pc) : vx_Back l R p e below s args y 3 8 (PreOf R mc ms Pc) (PostOf Qc mc ms free) (vx_Post XC mc ms free) := by
  obtain ⟨hrc, hrs, hfr, hlo, hws, hcw, -, hini, -⟩ := cb
  exact vx_back (bytes := bytes) (maxL := maxL) (ret := ret) hM hbl hrc hrs hfr hlo hws hcw (fun a' U hW => word_at hW (Or.inl (by first | rfl | simp [Cond.onTables, Cond.keeps, Cond.steady])) hini)
theorem vx_runV (S : CallFix p m c cc nL s args Ts own) (hM : vx_Met l y ws rm Pc Qc XC mc ms free) (cw : CallW R s args own C index y bytes maxL ret ws rm mc ms n) (hp : PreV s H C b Pc As)
    (hg : g.method = m) (hn : As.length = n) (hsize : g.locals.size = nL) (hstack : g.stack = As.reverse ++ .ref b :: rest) (hW : 2 * g.monitorRoom + (rest.map fun v => v.category).sum ≤ 8) (hdg : decode cc g.pc = .ok (.invokevirtual index, 3)) (hf : cells + mc ≤ R.cells ∧ slots + ms ≤ R.slots) :
    vx_Run p l e R s m args below meth c H locs cells slots mc ms g rest (Qc (Value.ref b :: As).toArray) XC free := by
  have hK : vx_Back l R p e below s args y 3 8 (PreOf R mc ms Pc) (PostOf Qc mc ms free) (vx_Post XC mc ms free) := vx_callBack cw.1 hM hp.1
  obtain ⟨⟨-, -, -, -, -, -, hcode, -, hy, hlen, hl⟩, hin, hse⟩ := cw
  obtain ⟨hx, hb, hml, ho, -⟩ := S
  obtain ⟨-, ⟨cellB, hcB, hoB, hclB⟩, hPc⟩ := hp
  intro T hT X
  rcases vx_callV X hx (C := C) (bytes := bytes) (maxL := maxL) (ret := ret) ho hl hin hse hcode hy hK (by rw [hT]; exact hcB) hoB hclB hg (hsize.trans hml.symm) (argsL := As) (rest := rest) (fun sig h => hn.trans (hlen sig h)) hstack hW (by rw [hb]; exact hdg)
    (fun vm₁ hW₁ => ⟨hf.1, hf.2, hPc (T.setVm vm₁) hT hW₁⟩) with ⟨v, vm₁, ⟨U', l2, c2, s2⟩, hW₁, X', ⟨g', mk, t, L, e1, e2, hq, h1, hL, h2, h3⟩, st⟩ | ⟨q, vm₁, ⟨U', l2, c2, s2⟩, hW₁, X', ⟨g', mk, t, L, E, ce, e1, e2, hq, hce, hcv, hcl, h1, hL, h2, h3⟩, st⟩
  · dsimp only [Pt.U, Pt.locs, Pt.cells, Pt.slots] at X' e1 e2 h1 h2 h3 st
    subst h1; subst h2; subst h3
    exact Or.inl ⟨v, (T.setVm vm₁).calling g' mk (Value.ref b :: As).toArray, t, U', L, hT, X', hL, e1, e2, hq, st⟩
  · dsimp only [Pt.U, Pt.locs, Pt.cells, Pt.slots] at X' e1 e2 h1 h2 h3 st hcl
    subst h1; subst h2; subst h3
    exact Or.inr ⟨q, (T.setVm vm₁).calling g' mk (Value.ref b :: As).toArray, t, U', L, E, ce, hT, X', hL, e1, e2, hq, hce, hcv, vx_cls hW₁ hcl, st⟩
theorem vx_runS (S : CallFix p m c cc nL s args Ts own) (hM : vx_Met l y ws rm Pc Qc XC mc ms free) (cw : CallB R s args own index y bytes maxL ret ws rm mc ms n ∧ (Cond.static y).before args s = true) (hp : PreS s H Pc As)
    (hg : g.method = m) (hn : As.length = n) (hsize : g.locals.size = nL) (hstack : g.stack = As.reverse ++ rest) (hW : 2 * g.monitorRoom + (rest.map fun v => v.category).sum ≤ 8) (hdg : decode cc g.pc = .ok (.invokestatic index, 3)) (hf : cells + mc ≤ R.cells ∧ slots + ms ≤ R.slots) :
    vx_Run p l e R s m args below meth c H locs cells slots mc ms g rest (Qc As.toArray) XC free := by
  have hK : vx_Back l R p e below s args y 3 8 (PreOf R mc ms Pc) (PostOf Qc mc ms free) (vx_Post XC mc ms free) := vx_callBack cw.1 hM hp.1
  obtain ⟨⟨-, -, -, -, -, -, hcode, hini, hy, hlen, hl⟩, hstt⟩ := cw
  obtain ⟨hx, hb, hml, ho, -⟩ := S
  intro T hT X
  rcases vx_callS X hx (bytes := bytes) (maxL := maxL) (ret := ret) ho hl hstt hini hcode hy hK hg (hsize.trans hml.symm) (argsL := As) (rest := rest) (fun sig h => hn.trans (hlen sig h)) hstack hW (by rw [hb]; exact hdg)
    (fun vm₁ hW₁ => ⟨hf.1, hf.2, hp.2 (T.setVm vm₁) hT hW₁⟩) with ⟨v, vm₁, ⟨U', l2, c2, s2⟩, hW₁, X', ⟨g', mk, t, L, e1, e2, hq, h1, hL, h2, h3⟩, st⟩ | ⟨q, vm₁, ⟨U', l2, c2, s2⟩, hW₁, X', ⟨g', mk, t, L, E, ce, e1, e2, hq, hce, hcv, hcl, h1, hL, h2, h3⟩, st⟩
  · dsimp only [Pt.U, Pt.locs, Pt.cells, Pt.slots] at X' e1 e2 h1 h2 h3 st
    subst h1; subst h2; subst h3
    exact Or.inl ⟨v, (T.setVm vm₁).calling g' mk As.toArray, t, U', L, hT, X', hL, e1, e2, hq, st⟩
  · dsimp only [Pt.U, Pt.locs, Pt.cells, Pt.slots] at X' e1 e2 h1 h2 h3 st hcl
    subst h1; subst h2; subst h3
    exact Or.inr ⟨q, (T.setVm vm₁).calling g' mk As.toArray, t, U', L, E, ce, hT, X', hL, e1, e2, hq, hce, hcv, vx_cls hW₁ hcl, st⟩
end Runs
section Rows
variable {p : Program} {l : Launch} {e : Env} {R : Room} {s : State} {m : MethodId} {args : Array Value} {below : List Frame} {meth : Method} {c : Code} {H : Heap} {locs : List Loc} {cells slots : Nat} {Q : State → Prop}
variable {mc ms : Nat} {free : Addr → Prop} {A0 A1 : Nat → Prop} {H0 : Heap} {a : Array Value} {pc : Nat} {ls : Array Slot} {st0 rest : List Value}
theorem vx_keep {st₀ t T' : State} {L : List Loc} (h0 : st₀.heap = H) (e1 : T'.heap = t.heap) (hS : va_S A0 H0 H locs) (hA : ∀ q, q < H.size → A1 q → A0 q) (hf : ∀ q, free q → A0 q) (hL : ∀ q ∈ L, free q.base) (hF : va_F A1 st₀ t) :
    H.size ≤ T'.heap.size ∧ (∀ q : Nat, q < H.size → ¬ A1 q → T'.heap[q]? = H[q]?) ∧ va_S A0 H0 T'.heap (locs ++ L) := by
  obtain ⟨hz, hk⟩ := hF
  rw [h0] at hz hk
  exact ⟨by rw [e1]; exact hz, fun q h1 h2 => by rw [e1]; exact hk q h1 h2,
    ⟨Nat.le_trans hS.1 (by rw [e1]; exact hz), fun q h1 h2 => by rw [e1, hk q (Nat.lt_of_lt_of_le h1 hS.1) (fun z => h2 (hA q (Nat.lt_of_lt_of_le h1 hS.1) z))]; exact hS.2.1 q h1 h2, fun q hq => by
      rcases List.mem_append.mp hq with h | h
      · exact hS.2.2 q h
      · exact hf _ (hL q h)⟩⟩
theorem vx_calli {S SX : Type} {post : Int32 → S → Prop} {px : SX → Prop} {B : S → State → Prop} {BX : String → SX → State → Prop} {AX : Nat → Prop} (hr : vx_Run p l e R s m args below meth c H locs cells slots mc ms (F0 m pc ls st0) rest (va_Qi post B A1 a) (vx_X px BX AX) free) (hS : va_S A0 H0 H locs) (hA : ∀ q, q < H.size → A1 q → A0 q) (hf : ∀ q, free q → A0 q) (hAX : ∀ q, q < H.size → AX q → A0 q)
    (kx : ∀ (E : String) (ce : Cell) (q9 : Addr) (u : SX) (t : State) (H1 : Heap) (locs1 : List Loc), t.heap = H1 → s.vm.Alike t.vm → px u → BX E u t → H.size ≤ H1.size → (∀ q : Nat, q < H.size → ¬ AX q → H1[q]? = H[q]?) → va_S A0 H0 H1 locs1 → H1[q9]? = some ce → ce.vm = .none → s.vm.findClass E = some ce.cls → vx_W p l e R s m args below meth c H1 locs1 (cells + mc) (slots + ms) Q (F0 m pc ls rest) q9)
    (kk : ∀ (r : Int32) (u : S) (t : State) (H1 : Heap) (locs1 : List Loc), t.heap = H1 → s.vm.Alike t.vm → post r u → B u t → H.size ≤ H1.size → (∀ q : Nat, q < H.size → ¬ A1 q → H1[q]? = H[q]?) → va_S A0 H0 H1 locs1 → W p l e R s m args below meth c H1 locs1 (cells + mc) (slots + ms) Q (F0 m (pc + 3) ls (.int r :: rest))) : W p l e R s m args below meth c H locs cells slots Q (F0 m pc ls st0) := by
  intro T hT X
  rcases hr T hT X with ⟨v, st₀, t, T', L, h0, X', hL, e1, e2, ⟨⟨r, u, hv, hp, hb⟩, hF⟩, st⟩ | ⟨q, st₀, t, T', L, E, ce, h0, X', hL, e1, e2, ⟨u, hp, hb, hF⟩, hce, hcv, hcl, st⟩
  · cases hv
    obtain ⟨k1, k2, k3⟩ := vx_keep h0 e1 hS hA hf hL hF
    obtain ⟨t2, a1, b1⟩ := kk r u t T'.heap (locs ++ L) e1.symm (by rw [← e2]; exact X'.warmed.alike) hp hb k1 k2 k3 T' rfl X'
    exact ⟨t2, st t2 a1, b1⟩
  · obtain ⟨k1, k2, k3⟩ := vx_keep h0 e1 hS hAX hf hL hF
    obtain ⟨t2, a1, b1⟩ := kx E ce q u t T'.heap (locs ++ L) e1.symm (by rw [← e2]; exact X'.warmed.alike) hp hb k1 k2 k3 (by rw [e1]; exact hce) hcv hcl T' rfl X'
    exact ⟨t2, st.trans a1, b1⟩
theorem vx_calll {S SX : Type} {post : Int64 → S → Prop} {px : SX → Prop} {B : S → State → Prop} {BX : String → SX → State → Prop} {AX : Nat → Prop} (hr : vx_Run p l e R s m args below meth c H locs cells slots mc ms (F0 m pc ls st0) rest (va_Ql post B A1 a) (vx_X px BX AX) free) (hS : va_S A0 H0 H locs) (hA : ∀ q, q < H.size → A1 q → A0 q) (hf : ∀ q, free q → A0 q) (hAX : ∀ q, q < H.size → AX q → A0 q)
    (kx : ∀ (E : String) (ce : Cell) (q9 : Addr) (u : SX) (t : State) (H1 : Heap) (locs1 : List Loc), t.heap = H1 → s.vm.Alike t.vm → px u → BX E u t → H.size ≤ H1.size → (∀ q : Nat, q < H.size → ¬ AX q → H1[q]? = H[q]?) → va_S A0 H0 H1 locs1 → H1[q9]? = some ce → ce.vm = .none → s.vm.findClass E = some ce.cls → vx_W p l e R s m args below meth c H1 locs1 (cells + mc) (slots + ms) Q (F0 m pc ls rest) q9)
    (kk : ∀ (r : Int64) (u : S) (t : State) (H1 : Heap) (locs1 : List Loc), t.heap = H1 → s.vm.Alike t.vm → post r u → B u t → H.size ≤ H1.size → (∀ q : Nat, q < H.size → ¬ A1 q → H1[q]? = H[q]?) → va_S A0 H0 H1 locs1 → W p l e R s m args below meth c H1 locs1 (cells + mc) (slots + ms) Q (F0 m (pc + 3) ls (.long r :: rest))) : W p l e R s m args below meth c H locs cells slots Q (F0 m pc ls st0) := by
  intro T hT X
  rcases hr T hT X with ⟨v, st₀, t, T', L, h0, X', hL, e1, e2, ⟨⟨r, u, hv, hp, hb⟩, hF⟩, st⟩ | ⟨q, st₀, t, T', L, E, ce, h0, X', hL, e1, e2, ⟨u, hp, hb, hF⟩, hce, hcv, hcl, st⟩
  · cases hv
    obtain ⟨k1, k2, k3⟩ := vx_keep h0 e1 hS hA hf hL hF
    obtain ⟨t2, a1, b1⟩ := kk r u t T'.heap (locs ++ L) e1.symm (by rw [← e2]; exact X'.warmed.alike) hp hb k1 k2 k3 T' rfl X'
    exact ⟨t2, st t2 a1, b1⟩
  · obtain ⟨k1, k2, k3⟩ := vx_keep h0 e1 hS hAX hf hL hF
    obtain ⟨t2, a1, b1⟩ := kx E ce q u t T'.heap (locs ++ L) e1.symm (by rw [← e2]; exact X'.warmed.alike) hp hb k1 k2 k3 (by rw [e1]; exact hce) hcv hcl T' rfl X'
    exact ⟨t2, st.trans a1, b1⟩
theorem vx_callf {S SX : Type} {post : UInt32 → S → Prop} {px : SX → Prop} {B : S → State → Prop} {BX : String → SX → State → Prop} {AX : Nat → Prop} (hr : vx_Run p l e R s m args below meth c H locs cells slots mc ms (F0 m pc ls st0) rest (va_Qf post B A1 a) (vx_X px BX AX) free) (hS : va_S A0 H0 H locs) (hA : ∀ q, q < H.size → A1 q → A0 q) (hf : ∀ q, free q → A0 q) (hAX : ∀ q, q < H.size → AX q → A0 q)
    (kx : ∀ (E : String) (ce : Cell) (q9 : Addr) (u : SX) (t : State) (H1 : Heap) (locs1 : List Loc), t.heap = H1 → s.vm.Alike t.vm → px u → BX E u t → H.size ≤ H1.size → (∀ q : Nat, q < H.size → ¬ AX q → H1[q]? = H[q]?) → va_S A0 H0 H1 locs1 → H1[q9]? = some ce → ce.vm = .none → s.vm.findClass E = some ce.cls → vx_W p l e R s m args below meth c H1 locs1 (cells + mc) (slots + ms) Q (F0 m pc ls rest) q9)
    (kk : ∀ (r : UInt32) (u : S) (t : State) (H1 : Heap) (locs1 : List Loc), t.heap = H1 → s.vm.Alike t.vm → post r u → B u t → H.size ≤ H1.size → (∀ q : Nat, q < H.size → ¬ A1 q → H1[q]? = H[q]?) → va_S A0 H0 H1 locs1 → W p l e R s m args below meth c H1 locs1 (cells + mc) (slots + ms) Q (F0 m (pc + 3) ls (.float r :: rest))) : W p l e R s m args below meth c H locs cells slots Q (F0 m pc ls st0) := by
  intro T hT X
  rcases hr T hT X with ⟨v, st₀, t, T', L, h0, X', hL, e1, e2, ⟨⟨r, u, hv, hp, hb⟩, hF⟩, st⟩ | ⟨q, st₀, t, T', L, E, ce, h0, X', hL, e1, e2, ⟨u, hp, hb, hF⟩, hce, hcv, hcl, st⟩
  · cases hv
    obtain ⟨k1, k2, k3⟩ := vx_keep h0 e1 hS hA hf hL hF
    obtain ⟨t2, a1, b1⟩ := kk r u t T'.heap (locs ++ L) e1.symm (by rw [← e2]; exact X'.warmed.alike) hp hb k1 k2 k3 T' rfl X'
    exact ⟨t2, st t2 a1, b1⟩
  · obtain ⟨k1, k2, k3⟩ := vx_keep h0 e1 hS hAX hf hL hF
    obtain ⟨t2, a1, b1⟩ := kx E ce q u t T'.heap (locs ++ L) e1.symm (by rw [← e2]; exact X'.warmed.alike) hp hb k1 k2 k3 (by rw [e1]; exact hce) hcv hcl T' rfl X'
    exact ⟨t2, st.trans a1, b1⟩
theorem vx_calld {S SX : Type} {post : UInt64 → S → Prop} {px : SX → Prop} {B : S → State → Prop} {BX : String → SX → State → Prop} {AX : Nat → Prop} (hr : vx_Run p l e R s m args below meth c H locs cells slots mc ms (F0 m pc ls st0) rest (va_Qd post B A1 a) (vx_X px BX AX) free) (hS : va_S A0 H0 H locs) (hA : ∀ q, q < H.size → A1 q → A0 q) (hf : ∀ q, free q → A0 q) (hAX : ∀ q, q < H.size → AX q → A0 q)
    (kx : ∀ (E : String) (ce : Cell) (q9 : Addr) (u : SX) (t : State) (H1 : Heap) (locs1 : List Loc), t.heap = H1 → s.vm.Alike t.vm → px u → BX E u t → H.size ≤ H1.size → (∀ q : Nat, q < H.size → ¬ AX q → H1[q]? = H[q]?) → va_S A0 H0 H1 locs1 → H1[q9]? = some ce → ce.vm = .none → s.vm.findClass E = some ce.cls → vx_W p l e R s m args below meth c H1 locs1 (cells + mc) (slots + ms) Q (F0 m pc ls rest) q9)
    (kk : ∀ (r : UInt64) (u : S) (t : State) (H1 : Heap) (locs1 : List Loc), t.heap = H1 → s.vm.Alike t.vm → post r u → B u t → H.size ≤ H1.size → (∀ q : Nat, q < H.size → ¬ A1 q → H1[q]? = H[q]?) → va_S A0 H0 H1 locs1 → W p l e R s m args below meth c H1 locs1 (cells + mc) (slots + ms) Q (F0 m (pc + 3) ls (.double r :: rest))) : W p l e R s m args below meth c H locs cells slots Q (F0 m pc ls st0) := by
  intro T hT X
  rcases hr T hT X with ⟨v, st₀, t, T', L, h0, X', hL, e1, e2, ⟨⟨r, u, hv, hp, hb⟩, hF⟩, st⟩ | ⟨q, st₀, t, T', L, E, ce, h0, X', hL, e1, e2, ⟨u, hp, hb, hF⟩, hce, hcv, hcl, st⟩
  · cases hv
    obtain ⟨k1, k2, k3⟩ := vx_keep h0 e1 hS hA hf hL hF
    obtain ⟨t2, a1, b1⟩ := kk r u t T'.heap (locs ++ L) e1.symm (by rw [← e2]; exact X'.warmed.alike) hp hb k1 k2 k3 T' rfl X'
    exact ⟨t2, st t2 a1, b1⟩
  · obtain ⟨k1, k2, k3⟩ := vx_keep h0 e1 hS hAX hf hL hF
    obtain ⟨t2, a1, b1⟩ := kx E ce q u t T'.heap (locs ++ L) e1.symm (by rw [← e2]; exact X'.warmed.alike) hp hb k1 k2 k3 (by rw [e1]; exact hce) hcv hcl T' rfl X'
    exact ⟨t2, st.trans a1, b1⟩
theorem vx_callv {S SX : Type} {post : S → Prop} {px : SX → Prop} {B : S → State → Prop} {BX : String → SX → State → Prop} {AX : Nat → Prop} (hr : vx_Run p l e R s m args below meth c H locs cells slots mc ms (F0 m pc ls st0) rest (va_Qv post B A1 a) (vx_X px BX AX) free) (hS : va_S A0 H0 H locs) (hA : ∀ q, q < H.size → A1 q → A0 q) (hf : ∀ q, free q → A0 q) (hAX : ∀ q, q < H.size → AX q → A0 q)
    (kx : ∀ (E : String) (ce : Cell) (q9 : Addr) (u : SX) (t : State) (H1 : Heap) (locs1 : List Loc), t.heap = H1 → s.vm.Alike t.vm → px u → BX E u t → H.size ≤ H1.size → (∀ q : Nat, q < H.size → ¬ AX q → H1[q]? = H[q]?) → va_S A0 H0 H1 locs1 → H1[q9]? = some ce → ce.vm = .none → s.vm.findClass E = some ce.cls → vx_W p l e R s m args below meth c H1 locs1 (cells + mc) (slots + ms) Q (F0 m pc ls rest) q9)
    (kk : ∀ (u : S) (t : State) (H1 : Heap) (locs1 : List Loc), t.heap = H1 → s.vm.Alike t.vm → post u → B u t → H.size ≤ H1.size → (∀ q : Nat, q < H.size → ¬ A1 q → H1[q]? = H[q]?) → va_S A0 H0 H1 locs1 → W p l e R s m args below meth c H1 locs1 (cells + mc) (slots + ms) Q (F0 m (pc + 3) ls (rest))) : W p l e R s m args below meth c H locs cells slots Q (F0 m pc ls st0) := by
  intro T hT X
  rcases hr T hT X with ⟨v, st₀, t, T', L, h0, X', hL, e1, e2, ⟨⟨u, hv, hp, hb⟩, hF⟩, st⟩ | ⟨q, st₀, t, T', L, E, ce, h0, X', hL, e1, e2, ⟨u, hp, hb, hF⟩, hce, hcv, hcl, st⟩
  · cases hv
    obtain ⟨k1, k2, k3⟩ := vx_keep h0 e1 hS hA hf hL hF
    obtain ⟨t2, a1, b1⟩ := kk u t T'.heap (locs ++ L) e1.symm (by rw [← e2]; exact X'.warmed.alike) hp hb k1 k2 k3 T' rfl X'
    exact ⟨t2, st t2 a1, b1⟩
  · obtain ⟨k1, k2, k3⟩ := vx_keep h0 e1 hS hAX hf hL hF
    obtain ⟨t2, a1, b1⟩ := kx E ce q u t T'.heap (locs ++ L) e1.symm (by rw [← e2]; exact X'.warmed.alike) hp hb k1 k2 k3 (by rw [e1]; exact hce) hcv hcl T' rfl X'
    exact ⟨t2, st.trans a1, b1⟩
/-- caught by the row x of this method's table; the rows ahead don't take it -/
theorem vx_catch {own name : String} {E : String} {ce : Cell} {q : Addr} (hown : s.vm.findClass own = some m.cls) (pre : List ExceptionTableEntry) (x : ExceptionTableEntry) (suf : List ExceptionTableEntry) (hsplit : c.exceptionTable.toList = pre ++ x :: suf)
    (hpass : ∀ z ∈ pre, covers z pc = false ∨ (z.catchType ≠ 0 ∧ ∃ nm : String, (Cond.classLink own z.catchType nm).before args s = true ∧ va_Nc E nm s)) (hx : covers x pc = true) (h0 : x.catchType ≠ 0)
    (hlink : (Cond.classLink own x.catchType name).before args s = true) (hcast : (Cond.castable E name).before args s = true) (hcell : H[q]? = some ce) (hv : ce.vm = .none) (hcl : s.vm.findClass E = some ce.cls)
    (kk : W p l e R s m args below meth c H locs cells slots Q (F0 m x.handlerPc ls [.ref q])) : vx_W p l e R s m args below meth c H locs cells slots Q (F0 m pc ls rest) q := by
  intro T hT X
  have hpl : e.platform.magicAccessors = ({} : Platform).magicAccessors := by rw [X.admits.platform]
  obtain ⟨c3, c4, hc3, hc4, hasg⟩ := Cond.castable_spec hcast
  cases Option.some.inj (hc3.symm.trans hcl)
  obtain ⟨c5, hc5, hcl5⟩ := Cond.classLink_spec hown hlink e.platform hpl
  cases Option.some.inj (hc4.symm.trans hc5)
  obtain ⟨vm', X', st⟩ := X.thenCaughtThrough q (g := F0 m pc ls rest) rfl (Steps.refl _) (by rw [hT]; exact hcell) (by rw [hv]; rfl) (by obtain ⟨k9, h9, -⟩ := Vm.findClass_spec hcl; exact ⟨k9, h9⟩) pre x suf hsplit
    (fun z hz => by
      rcases hpass z hz with h | ⟨hz0, nm, hl1, hn1⟩
      · exact Or.inl h
      · obtain ⟨c6, hc6, hcl6⟩ := Cond.classLink_spec hown hl1 e.platform hpl
        obtain ⟨a8, b8, h1, h2, h3⟩ := hn1
        cases Option.some.inj (h1.symm.trans hcl)
        cases Option.some.inj (h2.symm.trans hc6)
        exact Or.inr ⟨hz0, _, hcl6, h3⟩) hx (Or.inr ⟨h0, c4, hcl5, hasg⟩)
  obtain ⟨t, a1, b1⟩ := kk (T.setVm vm') hT X'
  exact ⟨t, st.trans a1, b1⟩
end Rows
section Ends
variable {p : Program} {l : Launch} {e : Env} {R : Room} {s : State} {m : MethodId} {args : Array Value} {below : List Frame} {meth : Method} {c : Code} {H : Heap} {locs : List Loc} {cells slots : Nat} {Q : State → Prop}
variable {mc ms : Nat} {free : Addr → Prop} {A0 A1 : Nat → Prop} {H0 : Heap} {a : Array Value} {ls : Array Slot} {st0 rest : List Value}
variable {Qc : Array Value → State → Outcome → State → Prop} {XC : String → State → State → Prop}
/-- what a body that may throw owes at its end -/
def vx_MQ (below : List Frame) (Qc : Array Value → State → Outcome → State → Prop) (XC : String → State → State → Prop) (a : Array Value) (s : State) (mc ms : Nat) (free : Addr → Prop) : State → Prop := fun t =>
  ∃ o, t.status = .running ∧ Ended t below o ∧ vx_Q Qc XC mc ms free a s o t
theorem vx_ret {g : JFrame} {mc ms : Nat} (k : W p l e R s m args below meth c H locs cells slots (MQ below Qc args s mc ms free) g) : W p l e R s m args below meth c H locs cells slots (vx_MQ below Qc XC args s mc ms free) g := by
  intro T hT X
  obtain ⟨t, a1, o, b1, b2, b3, b4⟩ := k T hT X
  exact ⟨t, a1, o, b1, b2, Or.inl ⟨b3, b4⟩⟩
/-- not caught here: it goes on to the caller -/
theorem vx_widen {g : JFrame} {q : Addr} {k n : Nat} (h1 : cells ≤ k) (h2 : slots ≤ n) (kk : vx_W p l e R s m args below meth c H locs k n Q g q) : vx_W p l e R s m args below meth c H locs cells slots Q g q := fun T hT X => kk T hT (stand_widen X h1 h2)
theorem vx_out {pc : Nat} {E : String} {ce : Cell} {q : Addr} {mc ms : Nat} (hout : ∀ x ∈ c.exceptionTable.toList, covers x pc = false) (hlocks : meth.locks = false) (hcell : H[q]? = some ce) (hv : ce.vm = .none) (hcl : s.vm.findClass E = some ce.cls)
    (hx : ∀ t : State, t.heap = H → s.vm.Alike t.vm → XC E s t) (hf : ∀ z ∈ locs, free z.base) (hc : cells ≤ mc) (hs : slots ≤ ms) :
    vx_W p l e R s m args below meth c H locs cells slots (vx_MQ below Qc XC args s mc ms free) (F0 m pc ls rest) q := by
  intro T hT X
  obtain ⟨st1, hrun, hend, hW, hsm⟩ := X.leaveThrown q (g := F0 m pc ls rest) rfl rfl rfl hout hlocks
  have hcell9 : (T.setFrames (.throwing q :: below)).heap[q]? = some ce := by
    show T.heap[q]? = some ce
    rw [hT]; exact hcell
  exact ⟨_, st1, .threw q, hrun, hend, Or.inr ⟨q, rfl, E, ce, locs, hx _ hT hW.alike, hcell9, hv, hcl, hW, hsm.mono hc hs, hf⟩⟩
theorem vx_frame {U : State} {k n : Nat} (h : s.sameButNew ({ U with vm := s.vm } : State) locs k n) : s.heap.size ≤ U.heap.size ∧ ∀ q : Nat, q < s.heap.size → (∀ z ∈ locs, z.base ≠ q) → U.heap[q]? = s.heap[q]? := by
  obtain ⟨-, h2, -, -, -, h6⟩ := h
  refine ⟨h2, fun q hq hz => ?_⟩
  obtain ⟨c9, e1, e2, e3, e4⟩ := h6 q _ (Array.getElem?_eq_getElem hq)
  have hs : c9.slots = (s.heap[q]).slots := Array.ext_getElem? fun i => e4 i fun hm => hz _ hm rfl
  have h9 : c9 = s.heap[q] := by
    rw [hs] at e2
    exact e2
  have e5 : U.heap[q]? = some c9 := e1
  rw [e5, h9, Array.getElem?_eq_getElem hq]
/-- the words of a throw but the four that speak of the heap -/
def vx_no (w : Cond) : Bool := decide (w ≠ .isRef (.static Bundle.tN "UNASSIGNED_STACK" Bundle.steD)) && decide (w ≠ .isRef (.static Bundle.tN "SUPPRESSED_SENTINEL" Bundle.listD)) && decide (w ≠ .laysStatic Bundle.tN "UNASSIGNED_STACK" Bundle.steD) && decide (w ≠ .laysStatic Bundle.tN "SUPPRESSED_SENTINEL" Bundle.listD)
def vx_at0 (own : String) (ic : Nat) (X : String) (names : List String) : List Cond := (Bundle.ownAtoms0 own ic X names).filter vx_no
def vx_atS (own : String) (ic : Nat) (X : String) (names : List String) : List Cond := (Bundle.ownAtoms own ic X names).filter vx_no
/-- a word that the tables alone decide, or a good one -/
def vx_ot (w : Cond) : Bool := w.onTables || goodWord w
theorem vx_ot_at {args a' : Array Value} {s U : State} {w : Cond} (hW : s.WarmedH U.vm) (hvm : s.vm = U.vm) (hg : vx_ot w = true) (h : w.before args s = true) : w.before a' U = true := by
  simp only [vx_ot, Bool.or_eq_true] at hg
  rcases hg with hg | hg
  · exact va_tabs hg hvm h
  · exact word_at hW (good_of_word hg) h
/-- a list's words: the good ones out of the method's own list, the others by premises of their own -/
theorem vx_hat {args : Array Value} {s : State} {L B : List Cond} (h1 : ∀ w ∈ L.filter goodWord, w.before args s = true) (h2 : ∀ w ∈ L.filter (fun w => !goodWord w), w ∈ B) (h3 : ∀ w ∈ B, w.before args s = true) : ∀ w ∈ L, w.before args s = true := by
  intro w hw
  by_cases g : goodWord w = true
  · exact h1 w (List.mem_filter.mpr ⟨hw, g⟩)
  · refine h3 w (h2 w (List.mem_filter.mpr ⟨hw, ?_⟩))
    show (!goodWord w) = true
    cases hgw : goodWord w
    · rfl
    · exact absurd hgw g
theorem vx_c {args : Array Value} {s : State} {w : Cond} {B : List Cond} (h : w.before args s = true) (t : ∀ w ∈ B, w.before args s = true) : ∀ w' ∈ w :: B, w'.before args s = true := fun w' h' => (List.mem_cons.mp h').elim (fun e => by rw [e]; exact h) (t w')
theorem vx_n {args : Array Value} {s : State} : ∀ w ∈ ([] : List Cond), w.before args s = true := fun _ h => nomatch h
theorem vx_own {args : Array Value} {s : State} {L : List Cond} (h1 : ∀ w ∈ L.filter vx_no, w.before args s = true)
    (hU : (Cond.isRef (.static Bundle.tN "UNASSIGNED_STACK" Bundle.steD)).before args s = true) (hN : (Cond.isRef (.static Bundle.tN "SUPPRESSED_SENTINEL" Bundle.listD)).before args s = true)
    (lU : (Cond.laysStatic Bundle.tN "UNASSIGNED_STACK" Bundle.steD).before args s = true) (lN : (Cond.laysStatic Bundle.tN "SUPPRESSED_SENTINEL" Bundle.listD).before args s = true) : ∀ w ∈ L, w.before args s = true := by
  intro w hw
  by_cases e1 : w = .isRef (.static Bundle.tN "UNASSIGNED_STACK" Bundle.steD)
  · rw [e1]; exact hU
  · by_cases e2 : w = .isRef (.static Bundle.tN "SUPPRESSED_SENTINEL" Bundle.listD)
    · rw [e2]; exact hN
    · by_cases e3 : w = .laysStatic Bundle.tN "UNASSIGNED_STACK" Bundle.steD
      · rw [e3]; exact lU
      · by_cases e4 : w = .laysStatic Bundle.tN "SUPPRESSED_SENTINEL" Bundle.listD
        · rw [e4]; exact lN
        · exact h1 w (List.mem_filter.mpr ⟨hw, by unfold vx_no; rw [decide_eq_true e1, decide_eq_true e2, decide_eq_true e3, decide_eq_true e4]; rfl⟩)
/-- where a static field lies, its class's statics cell in H -/
def vx_L (C n d : String) (A : Nat → Prop) (U : State) (H : Heap) : Prop := ∃ (c : ClassId) (k : Class) (i : Nat) (f : Field) (a : Nat) (cell : Cell), U.vm.findClass C = some c ∧ U.fieldFound? C n d = some (c, k, i, f) ∧ f.isStatic = true ∧ k.statics = some a ∧ H[a]? = some cell ∧ cell.vm.isStatics = true ∧ cell.cls = c ∧ f.slot < cell.slots.size ∧ k.staticTypes[f.slot]? = some f.type ∧ ¬ A a
theorem vx_L.moved {C n d : String} {A : Nat → Prop} {u U : State} {H : Heap} (hvm : u.vm.Alike U.vm) (h : vx_L C n d A u H) : vx_L C n d A U H := by
  obtain ⟨c, k, i, f, a, cell, h1, h2, h3, h4, h5, h6, h7, h8, h9, h10⟩ := h
  obtain ⟨k', hi', he⟩ := State.fieldFound?_setVm hvm h2
  exact ⟨c, k', i, f, a, cell, by rw [hvm.findClass]; exact h1, hi', h3, by rw [he]; exact h4, h5, h6, h7, h8, by rw [he]; exact h9, h10⟩
theorem vx_L.kept {C n d : String} {A : Nat → Prop} {U : State} {H H1 : Heap} (h : vx_L C n d A U H) (hq : ∀ a : Nat, a < H.size → ¬ A a → H1[a]? = H[a]?) : vx_L C n d A U H1 := by
  obtain ⟨c, k, i, f, a, cell, h1, h2, h3, h4, h5, h6, h7, h8, h9, h10⟩ := h
  exact ⟨c, k, i, f, a, cell, h1, h2, h3, h4, by rw [hq a (Array.getElem?_eq_some_iff.mp h5).1 h10]; exact h5, h6, h7, h8, h9, h10⟩
theorem vx_L.narrow {C n d : String} {A B : Nat → Prop} {U : State} {H : Heap} (h : vx_L C n d A U H) (hAB : ∀ q, B q → A q) : vx_L C n d B U H := by
  obtain ⟨c, k, i, f, a, cell, h1, h2, h3, h4, h5, h6, h7, h8, h9, h10⟩ := h
  exact ⟨c, k, i, f, a, cell, h1, h2, h3, h4, h5, h6, h7, h8, h9, fun z => h10 (hAB _ z)⟩
theorem vx_L.word {C n d : String} {A : Nat → Prop} {s : State} {args : Array Value} (h : vx_L C n d A s s.heap) : (Cond.laysStatic C n d).before args s = true := by
  obtain ⟨c, k, i, f, a, cell, h1, h2, h3, h4, h5, h6, h7, h8, h9, -⟩ := h
  show (Cond.laysStatic C n d).holds args s none s [] = true
  exact Cond.laysStatic_of h1 h2 h3 h4 h5 h6 h7 h8 h9
/-- .. and what it holds: null or some reference -/
def vx_Zq (C n d : String) (A : Nat → Prop) (U : State) (H : Heap) : Prop := va_Zq C n d A U H ∧ vx_L C n d A U H
theorem vx_Zq.moved {C n d : String} {A : Nat → Prop} {u U : State} {H : Heap} (hvm : u.vm.Alike U.vm) (h : vx_Zq C n d A u H) : vx_Zq C n d A U H := ⟨va_Zq.moved hvm h.1, vx_L.moved hvm h.2⟩
theorem vx_Zq.kept {C n d : String} {A : Nat → Prop} {U : State} {H H1 : Heap} (h : vx_Zq C n d A U H) (hq : ∀ a : Nat, a < H.size → ¬ A a → H1[a]? = H[a]?) : vx_Zq C n d A U H1 := ⟨va_Zq.kept h.1 hq, vx_L.kept h.2 hq⟩
theorem vx_Zq.narrow {C n d : String} {A B : Nat → Prop} {U : State} {H : Heap} (h : vx_Zq C n d A U H) (hAB : ∀ q, B q → A q) : vx_Zq C n d B U H := ⟨va_Zq.narrow h.1 hAB, vx_L.narrow h.2 hAB⟩
theorem vx_Zqof {args : Array Value} {s : State} {C n d : String} {A : Nat → Prop} (hl : (Cond.laysStatic C n d).before args s = true) (hini : (Cond.initialized C).before args s = true) (h : (Cond.isRef (.static C n d)).before args s = true) (hA : ∀ a : Nat, a < s.heap.size → ¬ A a) : vx_Zq C n d A s s.heap := by
  refine ⟨va_Zqof hl hini h hA, ?_⟩
  obtain ⟨c, k, i, f, a, cell, h1, h2, h3, h4, h5, h6, h7, h8, h9⟩ := Cond.laysStatic_spec hl
  exact ⟨c, k, i, f, a, cell, h1, h2, h3, h4, h5, h6, h7, h8, h9, hA a (Array.getElem?_eq_some_iff.mp h5).1⟩
theorem vx_isRef {C n d : String} {v : Value} {A : Nat → Prop} {s : State} {args : Array Value} (h : va_Z C n d v A s s.heap) (hv : v.isRef = true) : (Cond.isRef (.static C n d)).before args s = true := by
  obtain ⟨cf, kf, fi, f, a, cell, h1, h2, h3, h4, h5, h6, h7, -⟩ := h
  have he : (Term.static C n d).eval args s none [] s = some v := by
    simp [Term.eval, State.fieldNamed?, h1, h2, h4, h5, h6, h7]
  simp only [Cond.before, Cond.holds, Cond.value, he]
  cases v <;> simp_all [Value.isRef]
theorem vx_isRefq {C n d : String} {A : Nat → Prop} {s : State} {args : Array Value} (h : va_Zq C n d A s s.heap) : (Cond.isRef (.static C n d)).before args s = true := by
  rcases h with h | ⟨t, h⟩
  · exact vx_isRef h rfl
  · exact vx_isRef h rfl
/-- the same frame, seen from here: as if the method were called anew in this heap -/
theorem vx_rebase {T : State} (X : Stand p l e R s m args below meth c T locs cells slots) {R' : Room} (hf : R'.frames ≤ R.frames) (hl : R'.locals ≤ R.locals) (hc : cells + R'.cells ≤ R.cells) (hs : slots + R'.slots ≤ R.slots) :
    Stand p l e R' ((T.setVm s.vm).setFrames (.invoking m args :: below)) m args below meth c T [] 0 0 := by
  have htop : (T.setVm s.vm).topJava?.isSome := X.here.top
  have hF : ((T.setVm s.vm).setFrames (.invoking m args :: below)).frames = .invoking m args :: below := State.frames_setFrames _ (State.cur_lt_of_top htop)
  obtain ⟨g₀, hg0⟩ := Option.isSome_iff_exists.mp htop
  obtain ⟨r, hr⟩ := State.topJava?_eq_some.mp hg0
  have hl9 : e.platform.stackLimits (T.setVm s.vm).me = e.platform.stackLimits s.me := X.limits
  have hb9 : (T.setVm s.vm).me.stackBytes = s.me.stackBytes := X.bytes
  refine ⟨X.admits, X.cas, X.clock, hF, ?_, X.hears, X.method, X.code, X.here, X.tail, X.warmed, ?_, ?_, ?_⟩
  · have h := X.room
    have hU : ((T.setVm s.vm).setFrames (.invoking m args :: below)).localsInUse = s.localsInUse := by
      rw [State.localsInUse_invoking hF (meth := meth) (c := c) X.method X.code, State.localsInUse_invoking X.frames X.method X.code]
    simp only [State.hasRoom, Bool.and_eq_true, decide_eq_true_eq] at h ⊢
    obtain ⟨⟨⟨⟨h1, h2, h3, h4, h5, h6⟩, h7⟩, h8⟩, h9⟩ := h
    rw [X.frames, List.length_cons] at h2 h3
    have q1 := X.heapSize
    have q2 := X.used
    simp only [hF, hU, List.length_cons, State.stackLimits_setFrames, State.stackBytes_setFrames, hl9, hb9]
    refine ⟨⟨⟨⟨by omega, by omega, by omega, by omega, by omega, h6⟩, ?_⟩, ?_⟩, X.book⟩
    · show T.heap.size + R'.cells ≤ e.platform.maxCells
      omega
    · show T.slotsUsed + R'.slots ≤ e.platform.maxSlots
      omega
  · rw [State.stackLimits_setFrames]; rfl
  · rw [State.stackBytes_setFrames]; rfl
  · refine ⟨?_, Nat.le_refl _, Nat.le_refl _, ?_, ?_, fun a c9 h9 => ⟨c9, h9, rfl, rfl, fun _ _ => rfl⟩⟩
    · obtain ⟨t, ht, -⟩ := State.frames_cons hr
      show T.setVm s.vm = { ((T.setVm s.vm).setFrames (.invoking m args :: below)).setFrames (T.setVm s.vm).frames with heap := T.heap, slotsUsed := T.slotsUsed }
      rw [State.setFrames_setFrames, State.setFrames_self ht]
      rfl
    · show T.slotsUsed = T.slotsUsed + ((T.heap.toList.drop T.heap.size).map (·.slots.size)).sum
      rw [List.drop_eq_nil_of_le (Nat.le_of_eq Array.length_toList)]
      rfl
    · show ((T.heap.toList.drop T.heap.size).map (·.slots.size)).sum ≤ 0
      rw [List.drop_eq_nil_of_le (Nat.le_of_eq Array.length_toList)]
      exact Nat.le_refl _
/-- 'throw new E()': new; dup; invokespecial; athrow -/
theorem vx_throw0 {cc : ByteArray} {pc : Nat} (hexec : p.tables.exec = Jvm.exec) (hb : c.code = cc) (hl : l.stackTraces = false) {own cls : String} {names : List String} {ik ic mc ms : Nat} {A : Nat → Prop}
    (hown : s.vm.findClass own = some m.cls) (hcls : Bundle.fit cls = true) (hnames : ∀ n ∈ names, Bundle.fit n = true)
    (hk : (Cond.classLink own ik cls).before args s = true) (hini : (Cond.initialized cls).before args s = true) (hat : ∀ w ∈ vx_at0 own ic cls names, w.before args s = true)
    (hgood : ∀ w ∈ Cond.classLink own ik cls :: Cond.initialized cls :: vx_at0 own ic cls names, vx_ot w = true)
    (hU : vx_Zq Bundle.tN "UNASSIGNED_STACK" Bundle.steD A s s.heap) (hN : vx_Zq Bundle.tN "SUPPRESSED_SENTINEL" Bundle.listD A s s.heap) (hS : va_S A s.heap H locs) (hsize : ls.size = c.maxLocals)
    (d0 : decode cc pc = .ok (.new ik, 3)) (d3 : decode cc (pc + 3) = .ok (.dup, 1)) (d4 : decode cc (pc + 4) = .ok (.invokespecial ic, 3)) (d7 : decode cc (pc + 7) = .ok (.athrow, 1))
    (hout : ∀ x ∈ c.exceptionTable.toList, covers x (pc + 7) = false)
    (hRframes : names.length + 3 < R.frames) (hRlocals : (rest.map fun v => v.category).sum + (13 * (names.length + 1) + 42) ≤ R.locals) (hRcells : cells + 1 ≤ R.cells) (hRslots : slots + 6 ≤ R.slots) (hlocks : meth.locks = false)
    (hx : ∀ t : State, s.vm.Alike t.vm → H.size ≤ t.heap.size → (∀ q : Nat, q < H.size → t.heap[q]? = H[q]?) → XC cls s t)
    (hf : ∀ z ∈ locs, free z.base) (hc : cells + 1 ≤ mc) (hs : slots + 6 ≤ ms) :
    W p l e R s m args below meth c H locs cells slots (vx_MQ below Qc XC args s mc ms free) (F0 m pc ls rest) := by
  intro T hT X
  have htr : e.platform.stackTraces = false := (show e.platform.stackTraces = l.stackTraces by rw [X.admits.platform]).trans hl
  have Y := vx_rebase X (R' := { frames := R.frames, locals := R.locals, cells := 1, slots := 6 }) (Nat.le_refl _) (Nat.le_refl _) hRcells hRslots
  obtain ⟨s', hA⟩ : ∃ z, z = (T.setVm s.vm).setFrames (.invoking m args :: below) := ⟨_, rfl⟩
  rw [← hA] at Y
  have hvm : s'.vm = s.vm := by rw [hA]; rfl
  have hhp : s'.heap = H := by rw [hA]; exact hT
  have hW0 : s.WarmedH s'.vm := by rw [hvm]; exact State.WarmedH.refl s
  have hat' : ∀ w ∈ vx_at0 own ic cls names, w.before args s' = true := fun w hw => vx_ot_at hW0 hvm.symm (hgood w (List.mem_cons_of_mem _ (List.mem_cons_of_mem _ hw))) (hat w hw)
  have hk' : (Cond.classLink own ik cls).before args s' = true := vx_ot_at hW0 hvm.symm (hgood _ List.mem_cons_self) hk
  have hini' : (Cond.initialized cls).before args s' = true := vx_ot_at hW0 hvm.symm (hgood _ (List.mem_cons_of_mem _ List.mem_cons_self)) hini
  have hU' : vx_Zq Bundle.tN "UNASSIGNED_STACK" Bundle.steD A s' s'.heap := by rw [hhp]; exact vx_Zq.moved hW0.alike (hU.kept hS.2.1)
  have hN' : vx_Zq Bundle.tN "SUPPRESSED_SENTINEL" Bundle.listD A s' s'.heap := by rw [hhp]; exact vx_Zq.moved hW0.alike (hN.kept hS.2.1)
  have h : ∀ w ∈ Bundle.ownAtoms0 own ic cls names, w.before args s' = true := vx_own hat' (vx_isRefq hU'.1) (vx_isRefq hN'.1) hU'.2.word hN'.2.word
  have hown' : s'.vm.findClass own = some m.cls := by rw [hvm]; exact hown
  have hins : (Cond.instantiable cls 6).before args s' = true := h _ (by simp [Bundle.ownAtoms0])
  obtain ⟨vm₁, cX, kX, hfX, hkX, -, -, X₁, st1⟩ := Y.newCold hexec (own := own) (C := cls) (index := ik) (n := 6) hown' hk' hins hini'
    (g := F0 m pc ls rest) rfl (by rw [hb]; exact d0) (Nat.le_refl _) (Nat.le_refl _)
  generalize hT1 : (T.setVm vm₁).pushCell { cls := cX, slots := kX.instanceTypes.map defaultValue, vm := .none } = T1 at X₁ st1
  have hcat : (Value.ref T.heap.size).category = 1 := rfl
  have hcellA : T1.heap[T.heap.size]? = some (freshCell cX kX) := by rw [← hT1]; exact State.heap_pushCell_size _ _
  have d3' : decode c.code (pc + 3) = .ok (.dup, 1) := by rw [hb]; exact d3
  obtain ⟨U, hsteps, hrun, hend, hW, hsame, ce, hce, hO⟩ := X₁.ctorThrow0 hexec htr (own := own) (cls := cls) (names := names) (ic := ic) hown' hcls hnames h (fun x hx => nomatch hx) hfX hkX hcellA (by rw [hhp, hT]; exact Nat.le_refl _)
    (g := { method := m, pc := pc + 4, locals := ls, stack := .ref T.heap.size :: .ref T.heap.size :: rest, locked := none }) rfl hsize rfl rfl (rest := rest) rfl
    (by rw [hb]; exact d4) (by rw [hb]; exact d7) hout hRframes (by simp only [List.map_cons, List.sum_cons, hcat]; omega) hlocks
  obtain ⟨f1, f2⟩ := vx_frame hsame
  rw [hhp] at f1 f2
  have hWs : s.WarmedH U.vm := State.WarmedH.trans hW0 hW
  have hcl : s.vm.findClass cls = some ce.cls := by
    have h9 := hO.cls
    rw [hvm] at h9
    exact h9
  have hall : s.sameButNew ({ U with vm := s.vm } : State) locs mc ms := by
    subst hA
    obtain ⟨e1, e2⟩ := hsame
    rw [State.setFrames_setFrames] at e1
    have h2 : (T.setVm s.vm).sameButNew ({ U with vm := s.vm } : State) [] (0 + 1) (0 + 6) := ⟨e1, e2⟩
    have h3 := X.same.trans h2
    rw [List.append_nil] at h3
    exact h3.mono hc hs
  refine ⟨U, ?_, .threw T.heap.size, hrun, hend, Or.inr ⟨T.heap.size, rfl, cls, ce, locs, hx U hWs.alike f1 (fun q hq => f2 q hq (fun z hz => nomatch hz)), hce, hO.vm, hcl, hWs, hall, hf⟩⟩
  refine st1 _ ?_
  show Steps p.tables e below (T1.setTop { method := m, pc := pc + 3, locals := ls, stack := .ref T.heap.size :: rest, locked := none }) _
  jvm_step X₁.here [X₁.here.top, hexec, d3', Value.category]
  exact hsteps
/-- 'throw new E("text")': new; dup; ldc; invokespecial; athrow -/
theorem vx_throwS {cc : ByteArray} {pc : Nat} (hexec : p.tables.exec = Jvm.exec) (hb : c.code = cc) (hl : l.stackTraces = false) {own cls text : String} {names : List String} {ik is ic mc ms sa : Nat} {A : Nat → Prop}
    (hown : s.vm.findClass own = some m.cls) (hcls : Bundle.fit cls = true) (hnames : ∀ n ∈ names, Bundle.fit n = true)
    (hk : (Cond.classLink own ik cls).before args s = true) (hini : (Cond.initialized cls).before args s = true) (hstr : vk_R own is text sa s) (hat : ∀ w ∈ vx_atS own ic cls names, w.before args s = true)
    (hgood : ∀ w ∈ Cond.classLink own ik cls :: Cond.initialized cls :: vx_atS own ic cls names, vx_ot w = true)
    (hU : vx_Zq Bundle.tN "UNASSIGNED_STACK" Bundle.steD A s s.heap) (hN : vx_Zq Bundle.tN "SUPPRESSED_SENTINEL" Bundle.listD A s s.heap) (hS : va_S A s.heap H locs) (hsize : ls.size = c.maxLocals)
    (d0 : decode cc pc = .ok (.new ik, 3)) (d3 : decode cc (pc + 3) = .ok (.dup, 1)) (d4 : decode cc (pc + 4) = .ok (.ldc is, 2)) (d6 : decode cc (pc + 6) = .ok (.invokespecial ic, 3)) (d9 : decode cc (pc + 9) = .ok (.athrow, 1))
    (hout : ∀ x ∈ c.exceptionTable.toList, covers x (pc + 9) = false)
    (hRframes : names.length + 3 < R.frames) (hRlocals : (rest.map fun v => v.category).sum + (13 * (names.length + 1) + 43) ≤ R.locals) (hRcells : cells + 1 ≤ R.cells) (hRslots : slots + 6 ≤ R.slots) (hlocks : meth.locks = false)
    (hx : ∀ t : State, s.vm.Alike t.vm → H.size ≤ t.heap.size → (∀ q : Nat, q < H.size → t.heap[q]? = H[q]?) → XC cls s t)
    (hf : ∀ z ∈ locs, free z.base) (hc : cells + 1 ≤ mc) (hs : slots + 6 ≤ ms) :
    W p l e R s m args below meth c H locs cells slots (vx_MQ below Qc XC args s mc ms free) (F0 m pc ls rest) := by
  intro T hT X
  have htr : e.platform.stackTraces = false := (show e.platform.stackTraces = l.stackTraces by rw [X.admits.platform]).trans hl
  have Y := vx_rebase X (R' := { frames := R.frames, locals := R.locals, cells := 1, slots := 6 }) (Nat.le_refl _) (Nat.le_refl _) hRcells hRslots
  obtain ⟨s', hA⟩ : ∃ z, z = (T.setVm s.vm).setFrames (.invoking m args :: below) := ⟨_, rfl⟩
  rw [← hA] at Y
  have hvm : s'.vm = s.vm := by rw [hA]; rfl
  have hhp : s'.heap = H := by rw [hA]; exact hT
  have hW0 : s.WarmedH s'.vm := by rw [hvm]; exact State.WarmedH.refl s
  have hat' : ∀ w ∈ vx_atS own ic cls names, w.before args s' = true := fun w hw => vx_ot_at hW0 hvm.symm (hgood w (List.mem_cons_of_mem _ (List.mem_cons_of_mem _ hw))) (hat w hw)
  have hk' : (Cond.classLink own ik cls).before args s' = true := vx_ot_at hW0 hvm.symm (hgood _ List.mem_cons_self) hk
  have hini' : (Cond.initialized cls).before args s' = true := vx_ot_at hW0 hvm.symm (hgood _ (List.mem_cons_of_mem _ List.mem_cons_self)) hini
  have hU' : vx_Zq Bundle.tN "UNASSIGNED_STACK" Bundle.steD A s' s'.heap := by rw [hhp]; exact vx_Zq.moved hW0.alike (hU.kept hS.2.1)
  have hN' : vx_Zq Bundle.tN "SUPPRESSED_SENTINEL" Bundle.listD A s' s'.heap := by rw [hhp]; exact vx_Zq.moved hW0.alike (hN.kept hS.2.1)
  have h : ∀ w ∈ Bundle.ownAtoms own ic cls names, w.before args s' = true := vx_own hat' (vx_isRefq hU'.1) (vx_isRefq hN'.1) hU'.2.word hN'.2.word
  have hown' : s'.vm.findClass own = some m.cls := by rw [hvm]; exact hown
  have hins : (Cond.instantiable cls 6).before args s' = true := h _ (by simp [Bundle.ownAtoms])
  obtain ⟨vm₁, cX, kX, hfX, hkX, -, -, X₁, st1⟩ := Y.newCold hexec (own := own) (C := cls) (index := ik) (n := 6) hown' hk' hins hini'
    (g := F0 m pc ls rest) rfl (by rw [hb]; exact d0) (Nat.le_refl _) (Nat.le_refl _)
  generalize hT1 : (T.setVm vm₁).pushCell { cls := cX, slots := kX.instanceTypes.map defaultValue, vm := .none } = T1 at X₁ st1
  have hcat : (Value.ref T.heap.size).category = 1 := rfl
  have hcellA : T1.heap[T.heap.size]? = some (freshCell cX kX) := by rw [← hT1]; exact State.heap_pushCell_size _ _
  have d3' : decode c.code (pc + 3) = .ok (.dup, 1) := by rw [hb]; exact d3
  have d4' : decode c.code (pc + 4) = .ok (.ldc is, 2) := by rw [hb]; exact d4
  have hstr' : vk_R own is text sa s' := vk_R.warm hW0 hstr
  obtain ⟨U, hsteps, hrun, hend, hW, hsame, ce, hce, hO⟩ := X₁.ctorThrowS hexec htr (own := own) (cls := cls) (names := names) (ic := ic) hown' hcls hnames h (fun x hx => nomatch hx) hfX hkX hcellA (by rw [hhp, hT]; exact Nat.le_refl _) (msg := .ref sa) rfl
    (g := { method := m, pc := pc + 6, locals := ls, stack := .ref sa :: .ref T.heap.size :: .ref T.heap.size :: rest, locked := none }) rfl hsize rfl rfl (rest := rest) rfl
    (by rw [hb]; exact d6) (by rw [hb]; exact d9) hout hRframes (by simp only [List.map_cons, List.sum_cons, hcat]; omega) hlocks
  obtain ⟨f1, f2⟩ := vx_frame hsame
  rw [hhp] at f1 f2
  have hWs : s.WarmedH U.vm := State.WarmedH.trans hW0 hW
  have hcl : s.vm.findClass cls = some ce.cls := by
    have h9 := hO.cls
    rw [hvm] at h9
    exact h9
  have hall : s.sameButNew ({ U with vm := s.vm } : State) locs mc ms := by
    subst hA
    obtain ⟨e1, e2⟩ := hsame
    rw [State.setFrames_setFrames] at e1
    have h2 : (T.setVm s.vm).sameButNew ({ U with vm := s.vm } : State) [] (0 + 1) (0 + 6) := ⟨e1, e2⟩
    have h3 := X.same.trans h2
    rw [List.append_nil] at h3
    exact h3.mono hc hs
  refine ⟨U, ?_, .threw T.heap.size, hrun, hend, Or.inr ⟨T.heap.size, rfl, cls, ce, locs, hx U hWs.alike f1 (fun q hq => f2 q hq (fun z hz => nomatch hz)), hce, hO.vm, hcl, hWs, hall, hf⟩⟩
  refine st1 _ ?_
  show Steps p.tables e below (T1.setTop { method := m, pc := pc + 3, locals := ls, stack := .ref T.heap.size :: rest, locked := none }) _
  jvm_step X₁.here [X₁.here.top, hexec, d3', Value.category]
  exact X₁.ldcString hexec (own := own) (text := text) (index := is) (a := sa) hown' hstr'.1 hstr'.2
    (g := { method := m, pc := pc + 4, locals := ls, stack := .ref T.heap.size :: .ref T.heap.size :: rest, locked := none }) rfl d4' _ hsteps
/-- 'throw new E("text")', the text by a wide index -/
theorem vx_throwSW {cc : ByteArray} {pc : Nat} (hexec : p.tables.exec = Jvm.exec) (hb : c.code = cc) (hl : l.stackTraces = false) {own cls text : String} {names : List String} {ik is ic mc ms sa : Nat} {A : Nat → Prop}
    (hown : s.vm.findClass own = some m.cls) (hcls : Bundle.fit cls = true) (hnames : ∀ n ∈ names, Bundle.fit n = true)
    (hk : (Cond.classLink own ik cls).before args s = true) (hini : (Cond.initialized cls).before args s = true) (hstr : vk_R own is text sa s) (hat : ∀ w ∈ vx_atS own ic cls names, w.before args s = true)
    (hgood : ∀ w ∈ Cond.classLink own ik cls :: Cond.initialized cls :: vx_atS own ic cls names, vx_ot w = true)
    (hU : vx_Zq Bundle.tN "UNASSIGNED_STACK" Bundle.steD A s s.heap) (hN : vx_Zq Bundle.tN "SUPPRESSED_SENTINEL" Bundle.listD A s s.heap) (hS : va_S A s.heap H locs) (hsize : ls.size = c.maxLocals)
    (d0 : decode cc pc = .ok (.new ik, 3)) (d3 : decode cc (pc + 3) = .ok (.dup, 1)) (d4 : decode cc (pc + 4) = .ok (.ldc_w is, 3)) (d7 : decode cc (pc + 7) = .ok (.invokespecial ic, 3)) (d10 : decode cc (pc + 10) = .ok (.athrow, 1))
    (hout : ∀ x ∈ c.exceptionTable.toList, covers x (pc + 10) = false)
    (hRframes : names.length + 3 < R.frames) (hRlocals : (rest.map fun v => v.category).sum + (13 * (names.length + 1) + 43) ≤ R.locals) (hRcells : cells + 1 ≤ R.cells) (hRslots : slots + 6 ≤ R.slots) (hlocks : meth.locks = false)
    (hx : ∀ t : State, s.vm.Alike t.vm → H.size ≤ t.heap.size → (∀ q : Nat, q < H.size → t.heap[q]? = H[q]?) → XC cls s t)
    (hf : ∀ z ∈ locs, free z.base) (hc : cells + 1 ≤ mc) (hs : slots + 6 ≤ ms) :
    W p l e R s m args below meth c H locs cells slots (vx_MQ below Qc XC args s mc ms free) (F0 m pc ls rest) := by
  intro T hT X
  have htr : e.platform.stackTraces = false := (show e.platform.stackTraces = l.stackTraces by rw [X.admits.platform]).trans hl
  have Y := vx_rebase X (R' := { frames := R.frames, locals := R.locals, cells := 1, slots := 6 }) (Nat.le_refl _) (Nat.le_refl _) hRcells hRslots
  obtain ⟨s', hA⟩ : ∃ z, z = (T.setVm s.vm).setFrames (.invoking m args :: below) := ⟨_, rfl⟩
  rw [← hA] at Y
  have hvm : s'.vm = s.vm := by rw [hA]; rfl
  have hhp : s'.heap = H := by rw [hA]; exact hT
  have hW0 : s.WarmedH s'.vm := by rw [hvm]; exact State.WarmedH.refl s
  have hat' : ∀ w ∈ vx_atS own ic cls names, w.before args s' = true := fun w hw => vx_ot_at hW0 hvm.symm (hgood w (List.mem_cons_of_mem _ (List.mem_cons_of_mem _ hw))) (hat w hw)
  have hk' : (Cond.classLink own ik cls).before args s' = true := vx_ot_at hW0 hvm.symm (hgood _ List.mem_cons_self) hk
  have hini' : (Cond.initialized cls).before args s' = true := vx_ot_at hW0 hvm.symm (hgood _ (List.mem_cons_of_mem _ List.mem_cons_self)) hini
  have hU' : vx_Zq Bundle.tN "UNASSIGNED_STACK" Bundle.steD A s' s'.heap := by rw [hhp]; exact vx_Zq.moved hW0.alike (hU.kept hS.2.1)
  have hN' : vx_Zq Bundle.tN "SUPPRESSED_SENTINEL" Bundle.listD A s' s'.heap := by rw [hhp]; exact vx_Zq.moved hW0.alike (hN.kept hS.2.1)
  have h : ∀ w ∈ Bundle.ownAtoms own ic cls names, w.before args s' = true := vx_own hat' (vx_isRefq hU'.1) (vx_isRefq hN'.1) hU'.2.word hN'.2.word
  have hown' : s'.vm.findClass own = some m.cls := by rw [hvm]; exact hown
  have hins : (Cond.instantiable cls 6).before args s' = true := h _ (by simp [Bundle.ownAtoms])
  obtain ⟨vm₁, cX, kX, hfX, hkX, -, -, X₁, st1⟩ := Y.newCold hexec (own := own) (C := cls) (index := ik) (n := 6) hown' hk' hins hini'
    (g := F0 m pc ls rest) rfl (by rw [hb]; exact d0) (Nat.le_refl _) (Nat.le_refl _)
  generalize hT1 : (T.setVm vm₁).pushCell { cls := cX, slots := kX.instanceTypes.map defaultValue, vm := .none } = T1 at X₁ st1
  have hcat : (Value.ref T.heap.size).category = 1 := rfl
  have hcellA : T1.heap[T.heap.size]? = some (freshCell cX kX) := by rw [← hT1]; exact State.heap_pushCell_size _ _
  have d3' : decode c.code (pc + 3) = .ok (.dup, 1) := by rw [hb]; exact d3
  have d4' : decode c.code (pc + 4) = .ok (.ldc_w is, 3) := by rw [hb]; exact d4
  have hstr' : vk_R own is text sa s' := vk_R.warm hW0 hstr
  obtain ⟨U, hsteps, hrun, hend, hW, hsame, ce, hce, hO⟩ := X₁.ctorThrowS hexec htr (own := own) (cls := cls) (names := names) (ic := ic) hown' hcls hnames h (fun x hx => nomatch hx) hfX hkX hcellA (by rw [hhp, hT]; exact Nat.le_refl _) (msg := .ref sa) rfl
    (g := { method := m, pc := pc + 7, locals := ls, stack := .ref sa :: .ref T.heap.size :: .ref T.heap.size :: rest, locked := none }) rfl hsize rfl rfl (rest := rest) rfl
    (by rw [hb]; exact d7) (by rw [hb]; exact d10) hout hRframes (by simp only [List.map_cons, List.sum_cons, hcat]; omega) hlocks
  obtain ⟨f1, f2⟩ := vx_frame hsame
  rw [hhp] at f1 f2
  have hWs : s.WarmedH U.vm := State.WarmedH.trans hW0 hW
  have hcl : s.vm.findClass cls = some ce.cls := by
    have h9 := hO.cls
    rw [hvm] at h9
    exact h9
  have hall : s.sameButNew ({ U with vm := s.vm } : State) locs mc ms := by
    subst hA
    obtain ⟨e1, e2⟩ := hsame
    rw [State.setFrames_setFrames] at e1
    have h2 : (T.setVm s.vm).sameButNew ({ U with vm := s.vm } : State) [] (0 + 1) (0 + 6) := ⟨e1, e2⟩
    have h3 := X.same.trans h2
    rw [List.append_nil] at h3
    exact h3.mono hc hs
  refine ⟨U, ?_, .threw T.heap.size, hrun, hend, Or.inr ⟨T.heap.size, rfl, cls, ce, locs, hx U hWs.alike f1 (fun q hq => f2 q hq (fun z hz => nomatch hz)), hce, hO.vm, hcl, hWs, hall, hf⟩⟩
  refine st1 _ ?_
  show Steps p.tables e below (T1.setTop { method := m, pc := pc + 3, locals := ls, stack := .ref T.heap.size :: rest, locked := none }) _
  jvm_step X₁.here [X₁.here.top, hexec, d3', Value.category]
  exact X₁.ldcStringW hexec (own := own) (text := text) (index := is) (a := sa) hown' hstr'.1 hstr'.2
    (g := { method := m, pc := pc + 4, locals := ls, stack := .ref T.heap.size :: .ref T.heap.size :: rest, locked := none }) rfl d4' _ hsteps
end Ends
section Bodies
variable {l : Launch}
theorem vx_ofW {y : MethodName} {ws ws' : List Cond} {rm : Room} {Pc : Array Value → State → Prop} {Qc : Array Value → State → Outcome → State → Prop} {XC : String → State → State → Prop} {mc ms : Nat} {free : Addr → Prop} {cc : ByteArray} {maxL : Nat} {ret : Option FieldType}
    (hy : plainName y.cls = true) (hw : ws = Cond.code y cc maxL ret :: ws')
    (body : ∀ p e s m args below meth c s₁, BodyLoose p l y (headSpec ws rm) cc maxL ret e s m args below meth c s₁ → c.maxLocals = maxL → (∀ x ∈ c.exceptionTable.toList, False) → Pc args s →
      W p l e (headSpec ws rm).room s m args below meth c s.heap [] 0 0 (vx_MQ below Qc XC args s mc ms free) (entryFrame m args maxL)) : vx_Met l y ws rm Pc Qc XC mc ms free := by
  refine MetFree.of_bodyS (code := cc) (maxLocals := maxL) (ret := ret) hy ?_ ?_
  · intro args s m h hn
    obtain ⟨meth, c, h1, h2, h3, h4, h5, h6, -, -⟩ := Cond.code_spec hn (atoms_spec (ws := ws) h _ (by rw [hw]; exact List.mem_cons_self))
    exact ⟨meth, c, h1, h2, h3, h4, h5, h6⟩
  · intro p e s m args below meth c s₁ B hml hP _
    have hh0 : s₁.heap = s.heap := by rw [B.state]; rfl
    have ht : ∀ x ∈ c.exceptionTable.toList, False := by
      obtain ⟨meth9, c9, h1, h2, -, -, -, -, h7, -⟩ := Cond.code_spec B.named (atoms_spec (ws := ws) B.pre _ (by rw [hw]; exact List.mem_cons_self))
      cases Option.some.inj (h1.symm.trans B.method)
      cases Option.some.inj (h2.symm.trans (Stand.of_body B).code)
      intro x hx
      rw [Array.isEmpty_iff.mp h7] at hx
      cases hx
    obtain ⟨t, a1, o, b1, b2, b3⟩ := body p e s m args below meth c s₁ B hml ht hP s₁ hh0 (Stand.of_body B)
    exact ⟨t, o, a1, b1, b2, b3⟩
/-- the table of a body with handlers -/
theorem vx_table {p : Program} {x y : MethodName} {S : Spec} {cc bytes : ByteArray} {maxL maxL' : Nat} {ret ret' : Option FieldType} {e : Env} {s s₁ : State} {m : MethodId} {args : Array Value} {below : List Frame} {meth : Method} {c : Code} {hh : List (Nat × Nat × Nat × Nat)}
    (B : BodyLoose p l y S cc maxL ret e s m args below meth c s₁) (h : (Cond.codeWith y bytes maxL' ret' hh).before args s = true) : c.exceptionTable.toList = tableOf hh := by
  obtain ⟨m9, meth9, c9, hn9, h1, h2, -, -, h6, -⟩ := Cond.codeWith_spec h
  cases Option.some.inj (hn9.symm.trans B.named)
  cases Option.some.inj (h1.symm.trans B.method)
  cases Option.some.inj (h2.symm.trans (Stand.of_body B).code)
  rw [← h6, table_eq]
end Bodies
end VXA
/-! ===== END ===== -/
/-! ===== BEGIN a static call of a method with an exception table ===== -/
section VXS
variable {p : Program} {l : Launch} {e : Env} {R : Room} {s : State} {m : MethodId} {args : Array Value} {below : List Frame} {meth : Method} {c : Code} {T : State} {H : Heap} {locs : List Loc} {cells slots : Nat}
abbrev vx_CSW (R : Room) (s : State) (args : Array Value) (own : String) (index : Nat) (y : MethodName) (bytes : ByteArray) (maxL : Nat) (ret : Option FieldType) (hh : List (Nat × Nat × Nat × Nat)) (ws : List Cond) (rm : Room) (mc ms n : Nat) : Prop :=
  (rm.cells = mc ∧ rm.slots = ms ∧ rm.frames + 1 ≤ R.frames ∧ 8 + (maxL + 11) + rm.locals ≤ R.locals ∧ (∀ w ∈ ws, ∀ (a' : Array Value) (U : State), s.WarmedH U.vm → w.before a' U = true) ∧ Cond.codeWith y bytes maxL ret hh ∈ ws) ∧
  (Cond.codeWith y bytes maxL ret hh).before args s = true ∧ (Cond.initialized y.cls).before args s = true ∧ (y.cls ≠ "java/lang/invoke/MethodHandle" ∧ y.cls ≠ "java/lang/invoke/VarHandle") ∧
  (∀ sig, parseMethodDescriptor y.desc = some sig → n = sig.parameters.length) ∧ (Cond.methodLink own index y).before args s = true ∧ (Cond.static y).before args s = true
theorem vx_cwSW {own : String} {index maxL mc ms : Nat} {y : MethodName} {bytes : ByteArray} {ret : Option FieldType} {hh : List (Nat × Nat × Nat × Nat)} {Ts ws ws' : List Cond} {rm : Room} (n : Nat) (ht : ∀ w ∈ Ts, w.before args s = true) (hT : GoodIn Ts (va_wsS own index y ws)) (hw : ws = Cond.codeWith y bytes maxL ret hh :: ws') (hrc : rm.cells = mc) (hrs : rm.slots = ms)
    (hd : y.cls ≠ "java/lang/invoke/MethodHandle" ∧ y.cls ≠ "java/lang/invoke/VarHandle" ∧ (parseMethodDescriptor y.desc).map (fun d => d.parameters.length) = some n) (hR : rm.frames + 1 ≤ R.frames ∧ 8 + (maxL + 11) + rm.locals ≤ R.locals) :
    vx_CSW R s args own index y bytes maxL ret hh ws rm mc ms n := by
  have ok : ∀ w ∈ va_wsS own index y ws, w.before args s = true := fun w h => ht w (hT w h).1
  have hG : GoodIn Ts ws := fun w h => hT w (by unfold va_wsS; exact List.mem_append_right _ h)
  have hc : Cond.codeWith y bytes maxL ret hh ∈ ws := by rw [hw]; exact List.mem_cons_self
  refine ⟨⟨hrc, hrs, hR.1, hR.2, pay_in ht hG, hc⟩, ht _ (hG _ hc).1, ok _ (by simp [va_wsS]), ⟨hd.1, hd.2.1⟩, fun sig h => ?_, ok _ (by simp [va_wsS]), ok _ (by simp [va_wsS])⟩
  have h2 := hd.2.2
  rw [h] at h2
  exact (Option.some.inj h2).symm
theorem vx_callSW (X : Stand p l e R s m args below meth c T locs cells slots) (hexec : p.tables.exec = Jvm.exec) {own : String} {index : Nat} {y : MethodName} {bytes : ByteArray} {maxL : Nat} {ret : Option FieldType} {hh : List (Nat × Nat × Nat × Nat)}
    (hown : s.vm.findClass own = some m.cls) (hlink : (Cond.methodLink own index y).before args s = true) (hstat : (Cond.static y).before args s = true) (hinit : (Cond.initialized y.cls).before args s = true)
    (hcode : (Cond.codeWith y bytes maxL ret hh).before args s = true) (hy : y.cls ≠ "java/lang/invoke/MethodHandle" ∧ y.cls ≠ "java/lang/invoke/VarHandle")
    {W9 : Nat} {Pre : Pt → Array Value → Prop} {Post : Pt → Array Value → Option Value → Pt → Prop} (hK : Back l R p e below s args y 3 W9 Pre Post)
    {g : JFrame} (hg : g.method = m) (hsize : g.locals.size = c.maxLocals) {argsL rest : List Value} (hlen : ∀ sig, parseMethodDescriptor y.desc = some sig → argsL.length = sig.parameters.length)
    (hstack : g.stack = argsL.reverse ++ rest) (hW : 2 * g.monitorRoom + (rest.map fun v => v.category).sum ≤ W9) (hdg : decode c.code g.pc = .ok (.invokestatic index, 3))
    (hpre : ∀ vm₁, s.WarmedH vm₁ → Pre ⟨T.setVm vm₁, locs, cells, slots⟩ argsL.toArray) :
    ∃ (v : Option Value) (vm₁ : Vm) (B : Pt), s.WarmedH vm₁ ∧ Stand p l e R s m args below meth c B.U B.locs B.cells B.slots ∧ Post ⟨T.setVm vm₁, locs, cells, slots⟩ argsL.toArray v B ∧
      ∀ target, Steps p.tables e below (B.U.setTop { g with pc := g.pc + 3, stack := v.toList ++ rest }) target → Steps p.tables e below (T.setTop g) target := by
  obtain ⟨mk, methM, cM, hnamed, hmethM, -, -, -, -, -, -, hsigM⟩ := Cond.codeWith_spec hcode
  have hstatic : methM.isStatic = true := Cond.static_spec hnamed hmethM hstat
  obtain ⟨kP, hkP, -⟩ := className_of_methodNamed hnamed
  have hinitP : kP.init = .initialized := Cond.initialized_spec (findClass_of_methodNamed hnamed) hkP hinit
  obtain ⟨vm₁, X₁, hstep₁⟩ := X.invokestatic hexec hown hlink hnamed hmethM hstatic hkP hinitP hy (g := g) hg (argsL := argsL) (rest := rest) (hlen _ hsigM) hstack hdg
  obtain ⟨v, B, X', hpost, hsteps⟩ := hK m meth c ⟨T.setVm vm₁, locs, cells, slots⟩ { g with stack := rest } (.invokestatic index) mk argsL.toArray X₁ hg hsize hdg hW (X₁.named hnamed) (hpre vm₁ X₁.warmed)
  exact ⟨v, vm₁, B, X₁.warmed, X', hpost, fun target h => hstep₁ _ fun acts => by rw [doInvoke_state]; exact hsteps.trans h⟩
theorem vx_runSW {y : MethodName} {bytes cc : ByteArray} {maxL nL mc ms n index : Nat} {ret : Option FieldType} {hh : List (Nat × Nat × Nat × Nat)} {ws : List Cond} {rm : Room} {Pc : Array Value → State → Prop} {Qc : Array Value → State → Outcome → State → Prop} {free : Addr → Prop} {Ts : List Cond} {own : String} {As rest : List Value} {g : JFrame}
    (S : CallFix p m c cc nL s args Ts own) (hM : Met l y ws rm Pc Qc mc ms free) (cw : vx_CSW R s args own index y bytes maxL ret hh ws rm mc ms n) (hp : PreS s H Pc As)
    (hg : g.method = m) (hn : As.length = n) (hsize : g.locals.size = nL) (hstack : g.stack = As.reverse ++ rest) (hW : 2 * g.monitorRoom + (rest.map fun v => v.category).sum ≤ 8) (hdg : decode cc g.pc = .ok (.invokestatic index, 3)) (hf : cells + mc ≤ R.cells ∧ slots + ms ≤ R.slots) :
    va_Run p l e R s m args below meth c H locs cells slots mc ms g rest (Qc As.toArray) (free) := by
  obtain ⟨⟨hrc, hrs, hfr, hlo, hws, hcw⟩, hcode, hini, hy, hlen, hl, hstt⟩ := cw
  have hK : Back l R p e below s args y 3 8 (PreOf R mc ms Pc) (PostOf Qc mc ms free) := va_backW (hh := hh) (bytes := bytes) (maxL := maxL) (ret := ret) hM hp.1 hrc hrs hfr hlo hws hcw (fun a' U hW => word_at hW (Or.inl (by first | rfl | simp [Cond.onTables, Cond.keeps, Cond.steady])) hini)
  obtain ⟨hx, hb, hml, ho, -⟩ := S
  intro T hT X
  obtain ⟨v, vm₁, ⟨U', l2, c2, s2⟩, hW₁, X', ⟨g', mk, t, L, e1, e2, hq, h1, hL, h2, h3⟩, st⟩ := vx_callSW X hx (hh := hh) (bytes := bytes) (maxL := maxL) (ret := ret) ho hl hstt hini hcode hy hK hg (hsize.trans hml.symm) (argsL := As) (rest := rest) (fun sig h => hn.trans (hlen sig h)) hstack hW (by rw [hb]; exact hdg)
    (fun vm₁ hW₁ => ⟨hf.1, hf.2, hp.2 (T.setVm vm₁) hT hW₁⟩)
  dsimp only [Pt.U, Pt.locs, Pt.cells, Pt.slots] at X' e1 e2 h1 h2 h3 st
  subst h1; subst h2; subst h3
  exact ⟨v, (T.setVm vm₁).calling g' mk As.toArray, t, U', L, hT, X', hL, e1, e2, hq, st⟩
/-- not caught here, past rows that name other classes: it goes on to the caller -/
theorem vx_outP {p : Program} {l : Launch} {e : Env} {R : Room} {s : State} {m : MethodId} {args : Array Value} {below : List Frame} {meth : Method} {c : Code} {H : Heap} {locs : List Loc} {cells slots : Nat} {free : Addr → Prop} {ls : Array Slot} {rest : List Value} {Qc : Array Value → State → Outcome → State → Prop} {XC : String → State → State → Prop}
    {pc : Nat} {own E : String} {ce : Cell} {q : Addr} {mc ms : Nat} (hown : s.vm.findClass own = some m.cls) (hlocks : meth.locks = false)
    (hpass : ∀ z ∈ c.exceptionTable.toList, covers z pc = false ∨ (z.catchType ≠ 0 ∧ ∃ nm : String, (Cond.classLink own z.catchType nm).before args s = true ∧ va_Nc E nm s)) (hcell : H[q]? = some ce) (hv : ce.vm = .none) (hcl : s.vm.findClass E = some ce.cls)
    (hx : ∀ t : State, t.heap = H → s.vm.Alike t.vm → XC E s t) (hf : ∀ z ∈ locs, free z.base) (hc : cells ≤ mc) (hs : slots ≤ ms) :
    vx_W p l e R s m args below meth c H locs cells slots (vx_MQ below Qc XC args s mc ms free) (F0 m pc ls rest) q := by
  intro T hT X
  have hpl : e.platform.magicAccessors = ({} : Platform).magicAccessors := by rw [X.admits.platform]
  obtain ⟨vm', hW', X', st⟩ := X.outThrough hlocks q (g := F0 m pc ls rest) rfl rfl rfl (cell := ce) (by rw [hT]; exact hcell) (by rw [hv]; rfl)
    (by obtain ⟨k9, h9, -⟩ := Vm.findClass_spec hcl; exact ⟨k9, h9⟩) (fun z hz => by
      rcases hpass z hz with h | ⟨hz0, nm, hl1, hn1⟩
      · exact Or.inl h
      · obtain ⟨c6, hc6, hcl6⟩ := Cond.classLink_spec hown hl1 e.platform hpl
        obtain ⟨a8, b8, h1, h2, h3⟩ := hn1
        cases Option.some.inj (h1.symm.trans hcl)
        cases Option.some.inj (h2.symm.trans hc6)
        exact Or.inr ⟨hz0, _, hcl6, h3⟩)
  obtain ⟨g₀, hfr⟩ := X'.frames_eq
  have hcell9 : ((T.setVm vm').setFrames (.throwing q :: below)).heap[q]? = some ce := by
    show T.heap[q]? = some ce
    rw [hT]; exact hcell
  have hend : Ended ((T.setVm vm').setFrames (.throwing q :: below)) below (.threw q) := State.frames_setFrames _ (State.cur_lt_of_frames hfr)
  refine ⟨(T.setVm vm').setFrames (.throwing q :: below), ?_, .threw q, X'.here.running, hend, Or.inr ⟨q, rfl, E, ce, locs, hx _ hT (X'.ends _).1.alike, hcell9, hv, hcl, (X'.ends _).1, (X'.ends _).2.mono hc hs, hf⟩⟩
  rw [X.pushThrowing_eq]
  exact st
/-- a thing of a world lies in the heap -/
theorem vx_lt {D : va_G} {cl : List vw_C} {ws : va_W} {H1 : Heap} (h : va_P D cl ws H1) {k : Nat} {q : Nat × va_E} (hk : ws[k]? = some q) : q.1 < H1.size := (h k q hk).lt
end VXS
/-! ===== END ===== -/
/-! ===== BEGIN methods with a table of their own: called by a name, returning or throwing ===== -/
section VXH
/-! vx_backW, vx_callVX, vx_callSX, vx_callVW, vx_runVW, vx_runVX, vx_runSX, vx_ofWH follow the same proofs as their sisters above (Free/Laws.lean, Shelf42/LK1.lean); vx_outP calls Shelf42/NT130.lean (outThrough). -/
section
variable {l : Launch} {R : Room} {p : Program} {e : Env} {below : List Frame} {s : State} {sargs : Array Value} {y : MethodName} {len W9 : Nat}
theorem vx_backW {ws : List Cond} {rm : Room} {Pc : Array Value → State → Prop} {Qc : Array Value → State → Outcome → State → Prop} {XC : String → State → State → Prop} {mc ms : Nat} {free : Addr → Prop} {bytes : ByteArray} {maxL : Nat} {ret : Option FieldType} {hh : List (Nat × Nat × Nat × Nat)}
    (hM : vx_Met l y ws rm Pc Qc XC mc ms free) (hblind : FrameBlind Pc) (hrc : rm.cells = mc) (hrs : rm.slots = ms)
    (hframes : rm.frames + 1 ≤ R.frames) (hlocals : W9 + (maxL + 11) + rm.locals ≤ R.locals)
    (hws : ∀ w ∈ ws, ∀ a' U, s.WarmedH U.vm → w.before a' U = true) (hcode : Cond.codeWith y bytes maxL ret hh ∈ ws) (hinit : ∀ a' U, s.WarmedH U.vm → (Cond.initialized y.cls).before a' U = true) :
    vx_Back l R p e below s sargs y len W9 (PreOf R mc ms Pc) (PostOf Qc mc ms free) (vx_Post XC mc ms free) := by
  intro m meth c A g ig mk a X hg hsize hdg hW hn hp
  have h1 : (headSpec ws rm).pre.before a A.U = true := atoms_intro fun w hw => hws w hw _ _ X.warmed
  have h2 : (Cond.codeWith y bytes maxL ret hh).before a A.U = true := hws _ hcode _ _ X.warmed
  have h3 : (Cond.initialized y.cls).before a A.U = true := hinit _ _ X.warmed
  have h4 : A.cells + (headSpec ws rm).room.cells ≤ R.cells := by rw [show (headSpec ws rm).room.cells = mc from hrc]; exact hp.1
  have h5 : A.slots + (headSpec ws rm).room.slots ≤ R.slots := by rw [show (headSpec ws rm).room.slots = ms from hrs]; exact hp.2.1
  have hPc : Pc a (A.U.calling g mk a) := hblind _ _ _ _ hp.2.2
  obtain ⟨U, Ls, c0, s0⟩ := A
  dsimp only [Pt.U, Pt.locs, Pt.cells, Pt.slots] at h1 h2 h3 h4 h5 X hn hPc ⊢
  obtain ⟨m9, methY, cY, hn9, hmY, hcY, -, hlY, -⟩ := Cond.codeWith_spec h2
  cases Option.some.inj (hn9.symm.trans hn)
  obtain ⟨kY, hkY, -⟩ := className_of_methodNamed hn
  have hinitY : kY.init = .initialized := Cond.initialized_spec (findClass_of_methodNamed hn) hkY h3
  have h : At U g.method c below := by rw [hg]; exact X.here
  have hlocals9 : W9 + (maxL + 11) + (headSpec ws rm).room.locals ≤ R.locals := hlocals
  have happ : (headSpec ws rm).appliesLoose y e.platform (U.calling g mk a) = true :=
    Spec.appliesLoose_calling (g := g) h hdg hn hkY hinitY
      (X.room_calling (g := g) (R' := (headSpec ws rm).room) hsize hmY hcY hframes (by rw [hlY]; omega) h4 h5) h1
  obtain ⟨mid, hmid⟩ := h.above
  have hfr : (U.setTop g).frames = (.java g :: mid) ++ below := by rw [State.frames_setTop' g h.top, hmid]; rfl
  obtain ⟨o, s₂, hsteps, -, hend, hq⟩ := Steps.callFree hM p X.admits X.cas X.clock (acts := []) hfr happ hPc trivial
  have hq' : vx_Q Qc XC mc ms free a (U.calling g mk a) o s₂ := hq
  rw [State.frames_setTop' g h.top] at hend
  obtain ⟨g₀, hg0⟩ := Option.isSome_iff_exists.mp h.top
  obtain ⟨r, hr⟩ := State.topJava?_eq_some.mp hg0
  have hr' : (({ U with heap := s₂.heap, slotsUsed := s₂.slotsUsed } : State).setVm s₂.vm).frames = .java g₀ :: r := hr
  rcases hq' with ⟨hqc, L, hfe, hL⟩ | ⟨q, rfl, E, ce, L, hx, hce, hcv, hcl, hW₂, hsm, hL⟩
  · obtain ⟨⟨v, rfl⟩, hW₂, e2, q2, q3, q4, q5, q6⟩ := id hfe
    have e3 : s₂ = ({ (U.calling g mk a).setFrames s₂.frames with heap := s₂.heap, slotsUsed := s₂.slotsUsed } : State).setVm s₂.vm := by
      have : s₂ = ({ s₂ with vm := (U.calling g mk a).vm } : State).setVm s₂.vm := rfl
      rw [e2] at this
      exact this
    obtain ⟨c₂, i₂, len₂, hc₂, hd₂, hf₂⟩ := hend
    have hW' : U.WarmedH s₂.vm := hW₂
    have hcc : c₂ = c := by
      have h1 : s₂.code? g.method = U.code? g.method := by
        rw [State.code?_eq, State.code?_eq, hW'.alike.method?]
      exact Option.some.inj (hc₂.symm.trans (h1.trans h.code))
    subst hcc
    have hlen : len₂ = len := by rw [hdg] at hd₂; cases hd₂; rfl
    subst hlen
    have hs₂ : s₂ = (({ U with heap := s₂.heap, slotsUsed := s₂.slotsUsed } : State).setVm s₂.vm).setTop { g with pc := g.pc + len₂, stack := v.toList ++ g.stack } := by
      refine e3.trans ?_
      rw [hf₂, State.calling_eq h.top, State.setFrames_setFrames, State.setTop_of_frames _ hr', hr]
      rfl
    have hsame : U.sameButNew ({ U with heap := s₂.heap, slotsUsed := s₂.slotsUsed } : State) L mc ms := by
      refine ⟨?_, q2, q3, q4, q5, q6⟩
      obtain ⟨t, ht, -⟩ := State.frames_cons hr
      show ({ U with heap := s₂.heap, slotsUsed := s₂.slotsUsed } : State) = { U.setFrames U.frames with heap := s₂.heap, slotsUsed := s₂.slotsUsed }
      rw [State.setFrames_self ht]
    subst hg
    refine Or.inl ⟨v, ⟨(({ U with heap := s₂.heap, slotsUsed := s₂.slotsUsed } : State).setVm s₂.vm), Ls ++ L, c0 + mc, s0 + ms⟩,
      ⟨X.admits, X.cas, X.clock, X.frames, X.room, X.hears, X.method, X.code, (X.here.setHeapUsed s₂.heap s₂.slotsUsed).setVm hW'.alike, X.tail, State.WarmedH.trans X.warmed hW', X.limits, X.bytes, X.same.trans (hsame.setVm s.vm)⟩,
      ⟨g, mk, s₂, L, rfl, rfl, hqc, rfl, hL, rfl, rfl⟩, ?_⟩
    show Steps p.tables e below _ ((({ U with heap := s₂.heap, slotsUsed := s₂.slotsUsed } : State).setVm s₂.vm).setTop { g with pc := g.pc + len₂, stack := v.toList ++ g.stack })
    rw [← hs₂]
    exact hsteps
  · obtain ⟨e2, q2, q3, q4, q5, q6⟩ := id hsm
    have e3 : s₂ = ({ (U.calling g mk a).setFrames s₂.frames with heap := s₂.heap, slotsUsed := s₂.slotsUsed } : State).setVm s₂.vm := by
      have : s₂ = ({ s₂ with vm := (U.calling g mk a).vm } : State).setVm s₂.vm := rfl
      rw [e2] at this
      exact this
    have hf₂ : s₂.frames = .throwing q :: .java g :: U.frames.tail := hend
    have hW' : U.WarmedH s₂.vm := hW₂
    have hs₂ : s₂ = ((({ U with heap := s₂.heap, slotsUsed := s₂.slotsUsed } : State).setVm s₂.vm).setTop g).pushFrame (.throwing q) := by
      refine e3.trans ?_
      rw [hf₂, State.calling_eq h.top, State.setFrames_setFrames, State.pushFrame, State.frames_setTop _ hr', State.setTop_of_frames _ hr', State.setFrames_setFrames, hr]
      rfl
    have hsame : U.sameButNew ({ U with heap := s₂.heap, slotsUsed := s₂.slotsUsed } : State) L mc ms := by
      refine ⟨?_, q2, q3, q4, q5, q6⟩
      obtain ⟨t, ht, -⟩ := State.frames_cons hr
      show ({ U with heap := s₂.heap, slotsUsed := s₂.slotsUsed } : State) = { U.setFrames U.frames with heap := s₂.heap, slotsUsed := s₂.slotsUsed }
      rw [State.setFrames_self ht]
    subst hg
    refine Or.inr ⟨q, ⟨(({ U with heap := s₂.heap, slotsUsed := s₂.slotsUsed } : State).setVm s₂.vm), Ls ++ L, c0 + mc, s0 + ms⟩,
      ⟨X.admits, X.cas, X.clock, X.frames, X.room, X.hears, X.method, X.code, (X.here.setHeapUsed s₂.heap s₂.slotsUsed).setVm hW'.alike, X.tail, State.WarmedH.trans X.warmed hW', X.limits, X.bytes, X.same.trans (hsame.setVm s.vm)⟩,
      ⟨g, mk, s₂, L, E, ce, rfl, rfl, hx, hce, hcv, hcl, rfl, hL, rfl, rfl⟩, ?_⟩
    show Steps p.tables e below _ (((({ U with heap := s₂.heap, slotsUsed := s₂.slotsUsed } : State).setVm s₂.vm).setTop g).pushFrame (.throwing q))
    rw [← hs₂]
    exact hsteps
end
variable {p : Program} {l : Launch} {e : Env} {R : Room} {s : State} {m : MethodId} {args : Array Value} {below : List Frame} {meth : Method} {c : Code} {T : State} {H : Heap} {locs : List Loc} {cells slots : Nat}
theorem vx_callVX (X : Stand p l e R s m args below meth c T locs cells slots) (hexec : p.tables.exec = Jvm.exec) {own C : String} {index : Nat} {y : MethodName} {bytes : ByteArray} {maxL : Nat} {ret : Option FieldType} {hh : List (Nat × Nat × Nat × Nat)}
    (hown : s.vm.findClass own = some m.cls) (hlink : (Cond.methodLink own index y).before args s = true) (hinst : (Cond.instanceMethod y).before args s = true) (hsel : (Cond.selects C y y).before args s = true)
    (hcode : (Cond.codeWith y bytes maxL ret hh).before args s = true) (hy : y.cls ≠ "java/lang/invoke/MethodHandle" ∧ y.cls ≠ "java/lang/invoke/VarHandle")
    {W9 : Nat} {Pre : Pt → Array Value → Prop} {Post : Pt → Array Value → Option Value → Pt → Prop} {PostX : Pt → Array Value → Addr → Pt → Prop} (hK : vx_Back l R p e below s args y 3 W9 Pre Post PostX)
    {b : Addr} {cellB : Cell} (hcell : T.heap[b]? = some cellB) (hobj : cellB.vm.isStatics = false) (hcls : s.vm.findClass C = some cellB.cls)
    {g : JFrame} (hg : g.method = m) (hsize : g.locals.size = c.maxLocals) {argsL rest : List Value} (hlen : ∀ sig, parseMethodDescriptor y.desc = some sig → argsL.length = sig.parameters.length)
    (hstack : g.stack = argsL.reverse ++ .ref b :: rest) (hW : 2 * g.monitorRoom + (rest.map fun v => v.category).sum ≤ W9) (hdg : decode c.code g.pc = .ok (.invokevirtual index, 3))
    (hpre : ∀ vm₁, s.WarmedH vm₁ → Pre ⟨T.setVm vm₁, locs, cells, slots⟩ (Value.ref b :: argsL).toArray) :
    (∃ (v : Option Value) (vm₁ : Vm) (B : Pt), s.WarmedH vm₁ ∧ Stand p l e R s m args below meth c B.U B.locs B.cells B.slots ∧ Post ⟨T.setVm vm₁, locs, cells, slots⟩ (Value.ref b :: argsL).toArray v B ∧
      ∀ target, Steps p.tables e below (B.U.setTop { g with pc := g.pc + 3, stack := v.toList ++ rest }) target → Steps p.tables e below (T.setTop g) target) ∨
    (∃ (q : Addr) (vm₁ : Vm) (B : Pt), s.WarmedH vm₁ ∧ Stand p l e R s m args below meth c B.U B.locs B.cells B.slots ∧ PostX ⟨T.setVm vm₁, locs, cells, slots⟩ (Value.ref b :: argsL).toArray q B ∧
      Steps p.tables e below (T.setTop g) ((B.U.setTop { g with stack := rest }).pushFrame (.throwing q))) := by
  obtain ⟨mk, methM, hnamed, hmethM, hstM, habM⟩ := Cond.instanceMethod_spec hinst
  obtain ⟨m8, methM', cM, hn8, hmethM', -, -, -, -, -, -, hsigM⟩ := Cond.codeWith_spec hcode
  cases Option.some.inj (hn8.symm.trans hnamed)
  cases hmethM.symm.trans hmethM'
  obtain ⟨c2, r2, m2, q1, q2, q3, q4, kP, hkP, hkPi⟩ := Cond.selects_spec hsel
  cases hcls.symm.trans q1
  cases (State.methodFound?_of_named hnamed hy).symm.trans q2
  cases hnamed.symm.trans q3
  have hselP : selectMethod e.platform s.vm cellB.cls mk = .method mk := by rw [Launch.admits_selectMethod X.admits]; exact q4
  obtain ⟨vm₁, X₁, hstep₁⟩ := X.invokevirtual hexec hown hlink hnamed hmethM hstM hkP hkPi hy (a := b) (cell := cellB) hcell
    (fun z h => by rw [h] at hobj; cases hobj) hselP hmethM habM hkP hkPi (g := g) hg (argsL := argsL) (rest := rest) (hlen _ hsigM) hstack hdg
  rcases hK m meth c ⟨T.setVm vm₁, locs, cells, slots⟩ { g with stack := rest } (.invokevirtual index) mk (Value.ref b :: argsL).toArray X₁ hg hsize hdg hW (X₁.named hnamed) (hpre vm₁ X₁.warmed) with ⟨v, B, X', hpost, hsteps⟩ | ⟨q, B, X', hpost, hsteps⟩
  · exact Or.inl ⟨v, vm₁, B, X₁.warmed, X', hpost, fun target h => hstep₁ _ fun acts => by rw [doInvoke_state]; exact hsteps.trans h⟩
  · exact Or.inr ⟨q, vm₁, B, X₁.warmed, X', hpost, hstep₁ _ fun acts => by rw [doInvoke_state]; exact hsteps⟩
theorem vx_callSX (X : Stand p l e R s m args below meth c T locs cells slots) (hexec : p.tables.exec = Jvm.exec) {own : String} {index : Nat} {y : MethodName} {bytes : ByteArray} {maxL : Nat} {ret : Option FieldType} {hh : List (Nat × Nat × Nat × Nat)}
    (hown : s.vm.findClass own = some m.cls) (hlink : (Cond.methodLink own index y).before args s = true) (hstat : (Cond.static y).before args s = true) (hinit : (Cond.initialized y.cls).before args s = true)
    (hcode : (Cond.codeWith y bytes maxL ret hh).before args s = true) (hy : y.cls ≠ "java/lang/invoke/MethodHandle" ∧ y.cls ≠ "java/lang/invoke/VarHandle")
    {W9 : Nat} {Pre : Pt → Array Value → Prop} {Post : Pt → Array Value → Option Value → Pt → Prop} {PostX : Pt → Array Value → Addr → Pt → Prop} (hK : vx_Back l R p e below s args y 3 W9 Pre Post PostX)
    {g : JFrame} (hg : g.method = m) (hsize : g.locals.size = c.maxLocals) {argsL rest : List Value} (hlen : ∀ sig, parseMethodDescriptor y.desc = some sig → argsL.length = sig.parameters.length)
    (hstack : g.stack = argsL.reverse ++ rest) (hW : 2 * g.monitorRoom + (rest.map fun v => v.category).sum ≤ W9) (hdg : decode c.code g.pc = .ok (.invokestatic index, 3))
    (hpre : ∀ vm₁, s.WarmedH vm₁ → Pre ⟨T.setVm vm₁, locs, cells, slots⟩ argsL.toArray) :
    (∃ (v : Option Value) (vm₁ : Vm) (B : Pt), s.WarmedH vm₁ ∧ Stand p l e R s m args below meth c B.U B.locs B.cells B.slots ∧ Post ⟨T.setVm vm₁, locs, cells, slots⟩ argsL.toArray v B ∧
      ∀ target, Steps p.tables e below (B.U.setTop { g with pc := g.pc + 3, stack := v.toList ++ rest }) target → Steps p.tables e below (T.setTop g) target) ∨
    (∃ (q : Addr) (vm₁ : Vm) (B : Pt), s.WarmedH vm₁ ∧ Stand p l e R s m args below meth c B.U B.locs B.cells B.slots ∧ PostX ⟨T.setVm vm₁, locs, cells, slots⟩ argsL.toArray q B ∧
      Steps p.tables e below (T.setTop g) ((B.U.setTop { g with stack := rest }).pushFrame (.throwing q))) := by
  obtain ⟨mk, methM, cM, hnamed, hmethM, -, -, -, -, -, -, hsigM⟩ := Cond.codeWith_spec hcode
  have hstatic : methM.isStatic = true := Cond.static_spec hnamed hmethM hstat
  obtain ⟨kP, hkP, -⟩ := className_of_methodNamed hnamed
  have hinitP : kP.init = .initialized := Cond.initialized_spec (findClass_of_methodNamed hnamed) hkP hinit
  obtain ⟨vm₁, X₁, hstep₁⟩ := X.invokestatic hexec hown hlink hnamed hmethM hstatic hkP hinitP hy (g := g) hg (argsL := argsL) (rest := rest) (hlen _ hsigM) hstack hdg
  rcases hK m meth c ⟨T.setVm vm₁, locs, cells, slots⟩ { g with stack := rest } (.invokestatic index) mk argsL.toArray X₁ hg hsize hdg hW (X₁.named hnamed) (hpre vm₁ X₁.warmed) with ⟨v, B, X', hpost, hsteps⟩ | ⟨q, B, X', hpost, hsteps⟩
  · exact Or.inl ⟨v, vm₁, B, X₁.warmed, X', hpost, fun target h => hstep₁ _ fun acts => by rw [doInvoke_state]; exact hsteps.trans h⟩
  · exact Or.inr ⟨q, vm₁, B, X₁.warmed, X', hpost, hstep₁ _ fun acts => by rw [doInvoke_state]; exact hsteps⟩
theorem vx_callVW (X : Stand p l e R s m args below meth c T locs cells slots) (hexec : p.tables.exec = Jvm.exec) {own C : String} {index : Nat} {y : MethodName} {bytes : ByteArray} {maxL : Nat} {ret : Option FieldType} {hh : List (Nat × Nat × Nat × Nat)}
    (hown : s.vm.findClass own = some m.cls) (hlink : (Cond.methodLink own index y).before args s = true) (hinst : (Cond.instanceMethod y).before args s = true) (hsel : (Cond.selects C y y).before args s = true)
    (hcode : (Cond.codeWith y bytes maxL ret hh).before args s = true) (hy : y.cls ≠ "java/lang/invoke/MethodHandle" ∧ y.cls ≠ "java/lang/invoke/VarHandle")
    {W9 : Nat} {Pre : Pt → Array Value → Prop} {Post : Pt → Array Value → Option Value → Pt → Prop} (hK : Back l R p e below s args y 3 W9 Pre Post)
    {b : Addr} {cellB : Cell} (hcell : T.heap[b]? = some cellB) (hobj : cellB.vm.isStatics = false) (hcls : s.vm.findClass C = some cellB.cls)
    {g : JFrame} (hg : g.method = m) (hsize : g.locals.size = c.maxLocals) {argsL rest : List Value} (hlen : ∀ sig, parseMethodDescriptor y.desc = some sig → argsL.length = sig.parameters.length)
    (hstack : g.stack = argsL.reverse ++ .ref b :: rest) (hW : 2 * g.monitorRoom + (rest.map fun v => v.category).sum ≤ W9) (hdg : decode c.code g.pc = .ok (.invokevirtual index, 3))
    (hpre : ∀ vm₁, s.WarmedH vm₁ → Pre ⟨T.setVm vm₁, locs, cells, slots⟩ (Value.ref b :: argsL).toArray) :
    ∃ (v : Option Value) (vm₁ : Vm) (B : Pt), s.WarmedH vm₁ ∧ Stand p l e R s m args below meth c B.U B.locs B.cells B.slots ∧ Post ⟨T.setVm vm₁, locs, cells, slots⟩ (Value.ref b :: argsL).toArray v B ∧
      ∀ target, Steps p.tables e below (B.U.setTop { g with pc := g.pc + 3, stack := v.toList ++ rest }) target → Steps p.tables e below (T.setTop g) target := by
  obtain ⟨mk, methM, hnamed, hmethM, hstM, habM⟩ := Cond.instanceMethod_spec hinst
  obtain ⟨m8, methM', cM, hn8, hmethM', -, -, -, -, -, -, hsigM⟩ := Cond.codeWith_spec hcode
  cases Option.some.inj (hn8.symm.trans hnamed)
  cases hmethM.symm.trans hmethM'
  obtain ⟨c2, r2, m2, q1, q2, q3, q4, kP, hkP, hkPi⟩ := Cond.selects_spec hsel
  cases hcls.symm.trans q1
  cases (State.methodFound?_of_named hnamed hy).symm.trans q2
  cases hnamed.symm.trans q3
  have hselP : selectMethod e.platform s.vm cellB.cls mk = .method mk := by rw [Launch.admits_selectMethod X.admits]; exact q4
  obtain ⟨vm₁, X₁, hstep₁⟩ := X.invokevirtual hexec hown hlink hnamed hmethM hstM hkP hkPi hy (a := b) (cell := cellB) hcell
    (fun z h => by rw [h] at hobj; cases hobj) hselP hmethM habM hkP hkPi (g := g) hg (argsL := argsL) (rest := rest) (hlen _ hsigM) hstack hdg
  obtain ⟨v, B, X', hpost, hsteps⟩ := hK m meth c ⟨T.setVm vm₁, locs, cells, slots⟩ { g with stack := rest } (.invokevirtual index) mk (Value.ref b :: argsL).toArray X₁ hg hsize hdg hW (X₁.named hnamed) (hpre vm₁ X₁.warmed)
  exact ⟨v, vm₁, B, X₁.warmed, X', hpost, fun target h => hstep₁ _ fun acts => by rw [doInvoke_state]; exact hsteps.trans h⟩
abbrev vx_CVW (R : Room) (s : State) (args : Array Value) (own C : String) (index : Nat) (y : MethodName) (bytes : ByteArray) (maxL : Nat) (ret : Option FieldType) (hh : List (Nat × Nat × Nat × Nat)) (ws : List Cond) (rm : Room) (mc ms n : Nat) : Prop :=
  (rm.cells = mc ∧ rm.slots = ms ∧ rm.frames + 1 ≤ R.frames ∧ 8 + (maxL + 11) + rm.locals ≤ R.locals ∧ (∀ w ∈ ws, ∀ (a' : Array Value) (U : State), s.WarmedH U.vm → w.before a' U = true) ∧ Cond.codeWith y bytes maxL ret hh ∈ ws) ∧
  (Cond.codeWith y bytes maxL ret hh).before args s = true ∧ (Cond.initialized y.cls).before args s = true ∧ (y.cls ≠ "java/lang/invoke/MethodHandle" ∧ y.cls ≠ "java/lang/invoke/VarHandle") ∧
  (∀ sig, parseMethodDescriptor y.desc = some sig → n = sig.parameters.length) ∧ (Cond.methodLink own index y).before args s = true ∧ (Cond.instanceMethod y).before args s = true ∧ (Cond.selects C y y).before args s = true
theorem vx_cwVW {own C : String} {index maxL mc ms : Nat} {y : MethodName} {bytes : ByteArray} {ret : Option FieldType} {hh : List (Nat × Nat × Nat × Nat)} {Ts ws ws' : List Cond} {rm : Room} (n : Nat) (ht : ∀ w ∈ Ts, w.before args s = true) (hT : GoodIn Ts (wsV own index C y ws)) (hw : ws = Cond.codeWith y bytes maxL ret hh :: ws') (hrc : rm.cells = mc) (hrs : rm.slots = ms)
    (hd : y.cls = C ∧ y.cls ≠ "java/lang/invoke/MethodHandle" ∧ y.cls ≠ "java/lang/invoke/VarHandle" ∧ (parseMethodDescriptor y.desc).map (fun d => d.parameters.length) = some n) (hR : rm.frames + 1 ≤ R.frames ∧ 8 + (maxL + 11) + rm.locals ≤ R.locals) :
    vx_CVW R s args own C index y bytes maxL ret hh ws rm mc ms n := by
  obtain ⟨hC, hd⟩ := hd
  subst hC
  have ok : ∀ w ∈ wsV own index y.cls y ws, w.before args s = true := fun w h => ht w (hT w h).1
  have hG : GoodIn Ts ws := fun w h => hT w (by unfold wsV; exact List.mem_append_right _ h)
  have hc : Cond.codeWith y bytes maxL ret hh ∈ ws := by rw [hw]; exact List.mem_cons_self
  refine ⟨⟨hrc, hrs, hR.1, hR.2, pay_in ht hG, hc⟩, ht _ (hG _ hc).1, ok _ (by simp [wsV]), ⟨hd.1, hd.2.1⟩, fun sig h => ?_, ok _ (by simp [wsV]), ok _ (by simp [wsV]), ok _ (by simp [wsV])⟩
  have h2 := hd.2.2
  rw [h] at h2
  exact (Option.some.inj h2).symm
theorem vx_runVW {y : MethodName} {bytes cc : ByteArray} {maxL nL mc ms n index : Nat} {ret : Option FieldType} {hh : List (Nat × Nat × Nat × Nat)} {ws : List Cond} {rm : Room} {Pc : Array Value → State → Prop} {Qc : Array Value → State → Outcome → State → Prop} {free : Addr → Prop} {Ts : List Cond} {own C : String} {b : Addr} {As rest : List Value} {g : JFrame}
    (S : CallFix p m c cc nL s args Ts own) (hM : Met l y ws rm Pc Qc mc ms free) (cw : vx_CVW R s args own C index y bytes maxL ret hh ws rm mc ms n) (hp : PreV s H C b Pc As)
    (hg : g.method = m) (hn : As.length = n) (hsize : g.locals.size = nL) (hstack : g.stack = As.reverse ++ .ref b :: rest) (hW : 2 * g.monitorRoom + (rest.map fun v => v.category).sum ≤ 8) (hdg : decode cc g.pc = .ok (.invokevirtual index, 3)) (hf : cells + mc ≤ R.cells ∧ slots + ms ≤ R.slots) :
    va_Run p l e R s m args below meth c H locs cells slots mc ms g rest (Qc (Value.ref b :: As).toArray) free := by
  obtain ⟨⟨hrc, hrs, hfr, hlo, hws, hcw⟩, hcode, hini, hy, hlen, hl, hin, hse⟩ := cw
  have hK : Back l R p e below s args y 3 8 (PreOf R mc ms Pc) (PostOf Qc mc ms free) := va_backW (hh := hh) (bytes := bytes) (maxL := maxL) (ret := ret) hM hp.1 hrc hrs hfr hlo hws hcw (fun a' U hW => word_at hW (Or.inl (by first | rfl | simp [Cond.onTables, Cond.keeps, Cond.steady])) hini)
  obtain ⟨hx, hb, hml, ho, -⟩ := S
  obtain ⟨-, ⟨cellB, hcB, hoB, hclB⟩, hPc⟩ := hp
  intro T hT X
  obtain ⟨v, vm₁, ⟨U', l2, c2, s2⟩, hW₁, X', ⟨g', mk, t, L, e1, e2, hq, h1, hL, h2, h3⟩, st⟩ := vx_callVW X hx (C := C) (hh := hh) (bytes := bytes) (maxL := maxL) (ret := ret) ho hl hin hse hcode hy hK (by rw [hT]; exact hcB) hoB hclB hg (hsize.trans hml.symm) (argsL := As) (rest := rest) (fun sig h => hn.trans (hlen sig h)) hstack hW (by rw [hb]; exact hdg)
    (fun vm₁ hW₁ => ⟨hf.1, hf.2, hPc (T.setVm vm₁) hT hW₁⟩)
  dsimp only [Pt.U, Pt.locs, Pt.cells, Pt.slots] at X' e1 e2 h1 h2 h3 st
  subst h1; subst h2; subst h3
  exact ⟨v, (T.setVm vm₁).calling g' mk (Value.ref b :: As).toArray, t, U', L, hT, X', hL, e1, e2, hq, st⟩
section
variable {y : MethodName} {bytes cc : ByteArray} {maxL nL mc ms n index : Nat} {ret : Option FieldType} {ws : List Cond} {rm : Room} {Pc : Array Value → State → Prop} {Qc : Array Value → State → Outcome → State → Prop} {XC : String → State → State → Prop} {free : Addr → Prop} {Ts : List Cond} {own C : String} {b : Addr} {As rest : List Value} {g : JFrame}
theorem vx_runVX {hh : List (Nat × Nat × Nat × Nat)} (S : CallFix p m c cc nL s args Ts own) (hM : vx_Met l y ws rm Pc Qc XC mc ms free) (cw : vx_CVW R s args own C index y bytes maxL ret hh ws rm mc ms n) (hp : PreV s H C b Pc As)
    (hg : g.method = m) (hn : As.length = n) (hsize : g.locals.size = nL) (hstack : g.stack = As.reverse ++ .ref b :: rest) (hW : 2 * g.monitorRoom + (rest.map fun v => v.category).sum ≤ 8) (hdg : decode cc g.pc = .ok (.invokevirtual index, 3)) (hf : cells + mc ≤ R.cells ∧ slots + ms ≤ R.slots) :
    vx_Run p l e R s m args below meth c H locs cells slots mc ms g rest (Qc (Value.ref b :: As).toArray) XC free := by
  obtain ⟨⟨hrc, hrs, hfr, hlo, hws, hcw⟩, hcode, hini, hy, hlen, hl, hin, hse⟩ := cw
  have hK : vx_Back l R p e below s args y 3 8 (PreOf R mc ms Pc) (PostOf Qc mc ms free) (vx_Post XC mc ms free) := vx_backW (hh := hh) (bytes := bytes) (maxL := maxL) (ret := ret) hM hp.1 hrc hrs hfr hlo hws hcw (fun a' U hW => word_at hW (Or.inl (by first | rfl | simp [Cond.onTables, Cond.keeps, Cond.steady])) hini)
  obtain ⟨hx, hb, hml, ho, -⟩ := S
  obtain ⟨-, ⟨cellB, hcB, hoB, hclB⟩, hPc⟩ := hp
  intro T hT X
  rcases vx_callVX X hx (C := C) (hh := hh) (bytes := bytes) (maxL := maxL) (ret := ret) ho hl hin hse hcode hy hK (by rw [hT]; exact hcB) hoB hclB hg (hsize.trans hml.symm) (argsL := As) (rest := rest) (fun sig h => hn.trans (hlen sig h)) hstack hW (by rw [hb]; exact hdg)
    (fun vm₁ hW₁ => ⟨hf.1, hf.2, hPc (T.setVm vm₁) hT hW₁⟩) with ⟨v, vm₁, ⟨U', l2, c2, s2⟩, hW₁, X', ⟨g', mk, t, L, e1, e2, hq, h1, hL, h2, h3⟩, st⟩ | ⟨q, vm₁, ⟨U', l2, c2, s2⟩, hW₁, X', ⟨g', mk, t, L, E, ce, e1, e2, hq, hce, hcv, hcl, h1, hL, h2, h3⟩, st⟩
  · dsimp only [Pt.U, Pt.locs, Pt.cells, Pt.slots] at X' e1 e2 h1 h2 h3 st
    subst h1; subst h2; subst h3
    exact Or.inl ⟨v, (T.setVm vm₁).calling g' mk (Value.ref b :: As).toArray, t, U', L, hT, X', hL, e1, e2, hq, st⟩
  · dsimp only [Pt.U, Pt.locs, Pt.cells, Pt.slots] at X' e1 e2 h1 h2 h3 st hcl
    subst h1; subst h2; subst h3
    exact Or.inr ⟨q, (T.setVm vm₁).calling g' mk (Value.ref b :: As).toArray, t, U', L, E, ce, hT, X', hL, e1, e2, hq, hce, hcv, vx_cls hW₁ hcl, st⟩
theorem vx_runSX {hh : List (Nat × Nat × Nat × Nat)} (S : CallFix p m c cc nL s args Ts own) (hM : vx_Met l y ws rm Pc Qc XC mc ms free) (cw : vx_CSW R s args own index y bytes maxL ret hh ws rm mc ms n) (hp : PreS s H Pc As)
    (hg : g.method = m) (hn : As.length = n) (hsize : g.locals.size = nL) (hstack : g.stack = As.reverse ++ rest) (hW : 2 * g.monitorRoom + (rest.map fun v => v.category).sum ≤ 8) (hdg : decode cc g.pc = .ok (.invokestatic index, 3)) (hf : cells + mc ≤ R.cells ∧ slots + ms ≤ R.slots) :
    vx_Run p l e R s m args below meth c H locs cells slots mc ms g rest (Qc As.toArray) XC free := by
  obtain ⟨⟨hrc, hrs, hfr, hlo, hws, hcw⟩, hcode, hini, hy, hlen, hl, hstt⟩ := cw
  have hK : vx_Back l R p e below s args y 3 8 (PreOf R mc ms Pc) (PostOf Qc mc ms free) (vx_Post XC mc ms free) := vx_backW (hh := hh) (bytes := bytes) (maxL := maxL) (ret := ret) hM hp.1 hrc hrs hfr hlo hws hcw (fun a' U hW => word_at hW (Or.inl (by first | rfl | simp [Cond.onTables, Cond.keeps, Cond.steady])) hini)
  obtain ⟨hx, hb, hml, ho, -⟩ := S
  intro T hT X
  rcases vx_callSX X hx (hh := hh) (bytes := bytes) (maxL := maxL) (ret := ret) ho hl hstt hini hcode hy hK hg (hsize.trans hml.symm) (argsL := As) (rest := rest) (fun sig h => hn.trans (hlen sig h)) hstack hW (by rw [hb]; exact hdg)
    (fun vm₁ hW₁ => ⟨hf.1, hf.2, hp.2 (T.setVm vm₁) hT hW₁⟩) with ⟨v, vm₁, ⟨U', l2, c2, s2⟩, hW₁, X', ⟨g', mk, t, L, e1, e2, hq, h1, hL, h2, h3⟩, st⟩ | ⟨q, vm₁, ⟨U', l2, c2, s2⟩, hW₁, X', ⟨g', mk, t, L, E, ce, e1, e2, hq, hce, hcv, hcl, h1, hL, h2, h3⟩, st⟩
  · dsimp only [Pt.U, Pt.locs, Pt.cells, Pt.slots] at X' e1 e2 h1 h2 h3 st
    subst h1; subst h2; subst h3
    exact Or.inl ⟨v, (T.setVm vm₁).calling g' mk As.toArray, t, U', L, hT, X', hL, e1, e2, hq, st⟩
  · dsimp only [Pt.U, Pt.locs, Pt.cells, Pt.slots] at X' e1 e2 h1 h2 h3 st hcl
    subst h1; subst h2; subst h3
    exact Or.inr ⟨q, (T.setVm vm₁).calling g' mk As.toArray, t, U', L, E, ce, hT, X', hL, e1, e2, hq, hce, hcv, vx_cls hW₁ hcl, st⟩
end
end VXH
theorem vx_ofWH {l : Launch} {y : MethodName} {ws ws' : List Cond} {rm : Room} {Pc : Array Value → State → Prop} {Qc : Array Value → State → Outcome → State → Prop} {XC : String → State → State → Prop} {mc ms : Nat} {free : Addr → Prop} {cc : ByteArray} {maxL : Nat} {ret : Option FieldType} {hh : List (Nat × Nat × Nat × Nat)}
    (hy : plainName y.cls = true) (hw : ws = Cond.codeWith y cc maxL ret hh :: ws')
    (body : ∀ p e s m args below meth c s₁, BodyLoose p l y (headSpec ws rm) cc maxL ret e s m args below meth c s₁ → c.maxLocals = maxL → Pc args s →
      W p l e (headSpec ws rm).room s m args below meth c s.heap [] 0 0 (vx_MQ below Qc XC args s mc ms free) (entryFrame m args maxL)) : vx_Met l y ws rm Pc Qc XC mc ms free := by
  refine MetFree.of_bodyS (code := cc) (maxLocals := maxL) (ret := ret) hy ?_ ?_
  · intro args s m h hn
    obtain ⟨m9, meth, c, hn9, h1, h2, h3, h4, -, h5, h6, -⟩ := Cond.codeWith_spec (atoms_spec (ws := ws) h _ (by rw [hw]; exact List.mem_cons_self))
    cases hn.symm.trans hn9
    exact ⟨meth, c, h1, h2, h3, h4, h5, h6⟩
  · intro p e s m args below meth c s₁ B hml hP _
    have hh0 : s₁.heap = s.heap := by rw [B.state]; rfl
    obtain ⟨t, a1, o, b1, b2, b3⟩ := body p e s m args below meth c s₁ B hml hP s₁ hh0 (Stand.of_body B)
    exact ⟨t, o, a1, b1, b2, b3⟩
/-! ===== END ===== -/
/-! ===== BEGIN a constructor that throws (launches without stack traces) ===== -/
section VXIA
variable {p : Program} {l : Launch} {e : Env} {R : Room} {s : State} {m : MethodId} {args : Array Value} {below : List Frame} {meth : Method} {c : Code} {T : State} {locs : List Loc} {cells slots : Nat}
theorem vx_callI (X : Stand p l e R s m args below meth c T locs cells slots) (hexec : p.tables.exec = Jvm.exec) {own : String} {index : Nat} {y : MethodName} {bytes : ByteArray} {maxL : Nat}
    (hown : s.vm.findClass own = some m.cls) (hy1 : y.name = "<init>") (hlink : (Cond.methodLink own index y).before args s = true) (hinst : (Cond.instanceMethod y).before args s = true)
    (hcode : (Cond.code y bytes maxL none).before args s = true) (hy : y.cls ≠ "java/lang/invoke/MethodHandle" ∧ y.cls ≠ "java/lang/invoke/VarHandle")
    {W9 : Nat} {Pre : Pt → Array Value → Prop} {Post : Pt → Array Value → Option Value → Pt → Prop} {PostX : Pt → Array Value → Addr → Pt → Prop} (hK : vx_Back l R p e below s args y 3 W9 Pre Post PostX)
    {g : JFrame} (hg : g.method = m) (hsize : g.locals.size = c.maxLocals) {a : Addr} {argsL rest : List Value} (hlen : ∀ sig, parseMethodDescriptor y.desc = some sig → argsL.length = sig.parameters.length)
    (hstack : g.stack = argsL.reverse ++ .ref a :: rest) (hW : 2 * g.monitorRoom + (rest.map fun v => v.category).sum ≤ W9) (hdg : decode c.code g.pc = .ok (.invokespecial index, 3))
    (hpre : ∀ vm₁, s.WarmedH vm₁ → Pre ⟨T.setVm vm₁, locs, cells, slots⟩ (Value.ref a :: argsL).toArray) :
    (∃ (v : Option Value) (vm₁ : Vm) (B : Pt), s.WarmedH vm₁ ∧ Stand p l e R s m args below meth c B.U B.locs B.cells B.slots ∧ Post ⟨T.setVm vm₁, locs, cells, slots⟩ (Value.ref a :: argsL).toArray v B ∧
      ∀ target, Steps p.tables e below (B.U.setTop { g with pc := g.pc + 3, stack := v.toList ++ rest }) target → Steps p.tables e below (T.setTop g) target) ∨
    (∃ (q : Addr) (vm₁ : Vm) (B : Pt), s.WarmedH vm₁ ∧ Stand p l e R s m args below meth c B.U B.locs B.cells B.slots ∧ PostX ⟨T.setVm vm₁, locs, cells, slots⟩ (Value.ref a :: argsL).toArray q B ∧
      Steps p.tables e below (T.setTop g) ((B.U.setTop { g with stack := rest }).pushFrame (.throwing q))) := by
  subst hg
  have hpl : e.platform.magicAccessors = ({} : Platform).magicAccessors := by rw [X.admits.platform]
  obtain ⟨mk, methM, cM, kP, vm₁, hnamed, hmethM, hcodeM, -, hlocalsM, -, hkP, -, hW₁, hstep₁⟩ := Steps.initColdArgs (e := e) X.here hexec X.warmed hpl hown hy1 hy hlink hinst hcode (f := g) rfl hlen hstack hdg
  have X₁ := X.noted hW₁
  rcases hK g.method meth c ⟨T.setVm vm₁, locs, cells, slots⟩ { g with stack := rest } (.invokespecial index) mk (Value.ref a :: argsL).toArray X₁ rfl hsize hdg hW (X₁.named hnamed) (hpre vm₁ X₁.warmed) with ⟨v, B, X', hpost, hsteps⟩ | ⟨q, B, X', hpost, hsteps⟩
  · exact Or.inl ⟨v, vm₁, B, X₁.warmed, X', hpost, fun target h => hstep₁ _ fun acts => by rw [doInvoke_state]; exact hsteps.trans h⟩
  · exact Or.inr ⟨q, vm₁, B, X₁.warmed, X', hpost, hstep₁ _ fun acts => by rw [doInvoke_state]; exact hsteps⟩
end VXIA
section VXIB
variable {p : Program} {l : Launch} {e : Env} {R : Room} {s : State} {m : MethodId} {args : Array Value} {below : List Frame} {meth : Method} {c : Code} {H : Heap} {locs : List Loc} {cells slots : Nat}
variable {y : MethodName} {bytes cc : ByteArray} {maxL nL mc ms n index : Nat} {ret : Option FieldType} {ws : List Cond} {rm : Room} {Pc : Array Value → State → Prop} {Qc : Array Value → State → Outcome → State → Prop} {XC : String → State → State → Prop} {free : Addr → Prop} {Ts : List Cond} {own C : String} {b : Addr} {As rest : List Value} {g : JFrame}
theorem vx_runI (S : CallFix p m c cc nL s args Ts own) (hM : vx_Met l y ws rm Pc Qc XC mc ms free) (cw : CallB R s args own index y bytes maxL none ws rm mc ms n ∧ y.name = "<init>" ∧ (Cond.instanceMethod y).before args s = true) (hp : PreS s H Pc (.ref b :: As))
    (hg : g.method = m) (hn : As.length = n) (hsize : g.locals.size = nL) (hstack : g.stack = As.reverse ++ .ref b :: rest) (hW : 2 * g.monitorRoom + (rest.map fun v => v.category).sum ≤ 8) (hdg : decode cc g.pc = .ok (.invokespecial index, 3)) (hf : cells + mc ≤ R.cells ∧ slots + ms ≤ R.slots) :
    vx_Run p l e R s m args below meth c H locs cells slots mc ms g rest (Qc (Value.ref b :: As).toArray) XC free := by
  have hK : vx_Back l R p e below s args y 3 8 (PreOf R mc ms Pc) (PostOf Qc mc ms free) (vx_Post XC mc ms free) := vx_callBack cw.1 hM hp.1
  obtain ⟨⟨-, -, -, -, -, -, hcode, -, hy, hlen, hl⟩, hy1, hin⟩ := cw
  obtain ⟨hx, hb, hml, ho, -⟩ := S
  have hPc := hp.2
  intro T hT X
  rcases vx_callI X hx (bytes := bytes) (maxL := maxL) ho hy1 hl hin hcode hy hK hg (hsize.trans hml.symm) (a := b) (argsL := As) (rest := rest) (fun sig h => hn.trans (hlen sig h)) hstack hW (by rw [hb]; exact hdg)
    (fun vm₁ hW₁ => ⟨hf.1, hf.2, hPc (T.setVm vm₁) hT hW₁⟩) with ⟨v, vm₁, ⟨U', l2, c2, s2⟩, hW₁, X', ⟨g', mk, t, L, e1, e2, hq, h1, hL, h2, h3⟩, st⟩ | ⟨q, vm₁, ⟨U', l2, c2, s2⟩, hW₁, X', ⟨g', mk, t, L, E, ce, e1, e2, hq, hce, hcv, hcl, h1, hL, h2, h3⟩, st⟩
  · dsimp only [Pt.U, Pt.locs, Pt.cells, Pt.slots] at X' e1 e2 h1 h2 h3 st
    subst h1; subst h2; subst h3
    exact Or.inl ⟨v, (T.setVm vm₁).calling g' mk (Value.ref b :: As).toArray, t, U', L, hT, X', hL, e1, e2, hq, st⟩
  · dsimp only [Pt.U, Pt.locs, Pt.cells, Pt.slots] at X' e1 e2 h1 h2 h3 st hcl
    subst h1; subst h2; subst h3
    exact Or.inr ⟨q, (T.setVm vm₁).calling g' mk (Value.ref b :: As).toArray, t, U', L, E, ce, hT, X', hL, e1, e2, hq, hce, hcv, vx_cls hW₁ hcl, st⟩
end VXIB
/-! ===== END ===== -/
/-! ===== BEGIN a private constructor of a nest mate that throws ===== -/
section VXIC
variable {p : Program} {l : Launch} {e : Env} {R : Room} {s : State} {m : MethodId} {args : Array Value} {below : List Frame} {meth : Method} {c : Code} {T : State} {locs : List Loc} {cells slots : Nat}
theorem vx_callIN (X : Stand p l e R s m args below meth c T locs cells slots) (hexec : p.tables.exec = Jvm.exec) {own : String} {index : Nat} {host : String} {y : MethodName} {bytes : ByteArray} {maxL : Nat}
    (hown : s.vm.findClass own = some m.cls) (hy1 : y.name = "<init>") (hlink : (Cond.methodLinkNest own index y host).before args s = true) (hinst : (Cond.instanceMethod y).before args s = true)
    (hcode : (Cond.code y bytes maxL none).before args s = true) (hy : y.cls ≠ "java/lang/invoke/MethodHandle" ∧ y.cls ≠ "java/lang/invoke/VarHandle")
    {W9 : Nat} {Pre : Pt → Array Value → Prop} {Post : Pt → Array Value → Option Value → Pt → Prop} {PostX : Pt → Array Value → Addr → Pt → Prop} (hK : vx_Back l R p e below s args y 3 W9 Pre Post PostX)
    {g : JFrame} (hg : g.method = m) (hsize : g.locals.size = c.maxLocals) {a : Addr} {argsL rest : List Value} (hlen : ∀ sig, parseMethodDescriptor y.desc = some sig → argsL.length = sig.parameters.length)
    (hstack : g.stack = argsL.reverse ++ .ref a :: rest) (hW : 2 * g.monitorRoom + (rest.map fun v => v.category).sum ≤ W9) (hdg : decode c.code g.pc = .ok (.invokespecial index, 3))
    (hpre : ∀ vm₁, s.WarmedH vm₁ → Pre ⟨T.setVm vm₁, locs, cells, slots⟩ (Value.ref a :: argsL).toArray) :
    (∃ (v : Option Value) (vm₁ : Vm) (B : Pt), s.WarmedH vm₁ ∧ Stand p l e R s m args below meth c B.U B.locs B.cells B.slots ∧ Post ⟨T.setVm vm₁, locs, cells, slots⟩ (Value.ref a :: argsL).toArray v B ∧
      ∀ target, Steps p.tables e below (B.U.setTop { g with pc := g.pc + 3, stack := v.toList ++ rest }) target → Steps p.tables e below (T.setTop g) target) ∨
    (∃ (q : Addr) (vm₁ : Vm) (B : Pt), s.WarmedH vm₁ ∧ Stand p l e R s m args below meth c B.U B.locs B.cells B.slots ∧ PostX ⟨T.setVm vm₁, locs, cells, slots⟩ (Value.ref a :: argsL).toArray q B ∧
      Steps p.tables e below (T.setTop g) ((B.U.setTop { g with stack := rest }).pushFrame (.throwing q))) := by
  subst hg
  have hpl : e.platform.magicAccessors = ({} : Platform).magicAccessors := by rw [X.admits.platform]
  obtain ⟨mk, methM, cM, kP, vm₁, hnamed, hmethM, hcodeM, -, hlocalsM, -, hkP, -, hW₁, hstep₁⟩ := Steps.initColdArgsNest (e := e) X.here hexec X.warmed hpl hown hy1 hy hlink hinst hcode (f := g) rfl hlen hstack hdg
  have X₁ := X.noted hW₁
  rcases hK g.method meth c ⟨T.setVm vm₁, locs, cells, slots⟩ { g with stack := rest } (.invokespecial index) mk (Value.ref a :: argsL).toArray X₁ rfl hsize hdg hW (X₁.named hnamed) (hpre vm₁ X₁.warmed) with ⟨v, B, X', hpost, hsteps⟩ | ⟨q, B, X', hpost, hsteps⟩
  · exact Or.inl ⟨v, vm₁, B, X₁.warmed, X', hpost, fun target h => hstep₁ _ fun acts => by rw [doInvoke_state]; exact hsteps.trans h⟩
  · exact Or.inr ⟨q, vm₁, B, X₁.warmed, X', hpost, hstep₁ _ fun acts => by rw [doInvoke_state]; exact hsteps⟩
end VXIC
section VXID
variable {p : Program} {l : Launch} {e : Env} {R : Room} {s : State} {m : MethodId} {args : Array Value} {below : List Frame} {meth : Method} {c : Code} {H : Heap} {locs : List Loc} {cells slots : Nat}
theorem vx_runIN {y : MethodName} {bytes cc : ByteArray} {maxL nL mc ms n index : Nat} {ws : List Cond} {rm : Room} {Pc : Array Value → State → Prop} {Qc : Array Value → State → Outcome → State → Prop} {XC : String → State → State → Prop} {free : Addr → Prop} {Ts : List Cond} {own host : String} {b : Addr} {As rest : List Value} {g : JFrame}
    (S : CallFix p m c cc nL s args Ts own) (hM : vx_Met l y ws rm Pc Qc XC mc ms free) (cw : va_CN R s args own index y host bytes maxL none ws rm mc ms n ∧ y.name = "<init>" ∧ (Cond.instanceMethod y).before args s = true) (hp : PreS s H Pc (.ref b :: As))
    (hg : g.method = m) (hn : As.length = n) (hsize : g.locals.size = nL) (hstack : g.stack = As.reverse ++ .ref b :: rest) (hW : 2 * g.monitorRoom + (rest.map fun v => v.category).sum ≤ 8) (hdg : decode cc g.pc = .ok (.invokespecial index, 3)) (hf : cells + mc ≤ R.cells ∧ slots + ms ≤ R.slots) :
    vx_Run p l e R s m args below meth c H locs cells slots mc ms g rest (Qc (Value.ref b :: As).toArray) XC free := by
  obtain ⟨⟨⟨hrc, hrs, hfr, hlo, hws, hcw⟩, hcode, hini, hy, hlen, hl⟩, hx1, hx2⟩ := cw
  have hK : vx_Back l R p e below s args y 3 8 (PreOf R mc ms Pc) (PostOf Qc mc ms free) (vx_Post XC mc ms free) := vx_back (bytes := bytes) (maxL := maxL) (ret := none) hM hp.1 hrc hrs hfr hlo hws hcw (fun a' U hW => word_at hW (Or.inl (by first | rfl | simp [Cond.onTables, Cond.keeps, Cond.steady])) hini)
  obtain ⟨hx, hb, hml, ho, -⟩ := S
  have hPc := hp.2
  intro T hT X
  rcases vx_callIN X hx (bytes := bytes) (maxL := maxL) ho hx1 hl hx2 hcode hy hK hg (hsize.trans hml.symm) (a := b) (argsL := As) (rest := rest) (fun sig h => hn.trans (hlen sig h)) hstack hW (by rw [hb]; exact hdg)
    (fun vm₁ hW₁ => ⟨hf.1, hf.2, hPc (T.setVm vm₁) hT hW₁⟩) with ⟨v, vm₁, ⟨U', l2, c2, s2⟩, hW₁, X', ⟨g', mk, t, L, e1, e2, hq, h1, hL, h2, h3⟩, st⟩ | ⟨q, vm₁, ⟨U', l2, c2, s2⟩, hW₁, X', ⟨g', mk, t, L, E, ce, e1, e2, hq, hce, hcv, hcl, h1, hL, h2, h3⟩, st⟩
  · dsimp only [Pt.U, Pt.locs, Pt.cells, Pt.slots] at X' e1 e2 h1 h2 h3 st
    subst h1; subst h2; subst h3
    exact Or.inl ⟨v, (T.setVm vm₁).calling g' mk (Value.ref b :: As).toArray, t, U', L, hT, X', hL, e1, e2, hq, st⟩
  · dsimp only [Pt.U, Pt.locs, Pt.cells, Pt.slots] at X' e1 e2 h1 h2 h3 st hcl
    subst h1; subst h2; subst h3
    exact Or.inr ⟨q, (T.setVm vm₁).calling g' mk (Value.ref b :: As).toArray, t, U', L, E, ce, hT, X', hL, e1, e2, hq, hce, hcv, vx_cls hW₁ hcl, st⟩
end VXID
/-! ===== END ===== -/
/-! ===== BEGIN a method of a class above, found by the receiver, that may throw (follows va_callVU, va_runU of this kit) ===== -/
section
variable {p : Program} {l : Launch} {e : Env} {R : Room} {s : State} {m : MethodId} {args : Array Value} {below : List Frame} {meth : Method} {c : Code} {H : Heap} {locs : List Loc} {cells slots : Nat}
theorem vx_callVU {T : State} {locs : List Loc} {cells slots : Nat} (X : Stand p l e R s m args below meth c T locs cells slots) (hexec : p.tables.exec = Jvm.exec) {own C owner : String} {index : Nat} {x y : MethodName} {bytes : ByteArray} {maxL : Nat} {ret : Option FieldType}
    (hown : s.vm.findClass own = some m.cls) (hlink : (Cond.methodLink own index x).before args s = true) (hsame : (Cond.sameMethod x.cls owner x.name x.desc).before args s = true)
    (hd0 : va_Decl s ⟨owner, x.name, x.desc⟩) (howner : owner ≠ "java/lang/invoke/MethodHandle" ∧ owner ≠ "java/lang/invoke/VarHandle")
    (hsel : (Cond.selects C x y).before args s = true) (hinst : (Cond.instanceMethod y).before args s = true) (hcode : (Cond.code y bytes maxL ret).before args s = true)
    {W : Nat} {Pre : Pt → Array Value → Prop} {Post : Pt → Array Value → Option Value → Pt → Prop} {PostX : Pt → Array Value → Addr → Pt → Prop} (hK : vx_Back l R p e below s args y 3 W Pre Post PostX)
    {b : Addr} {cellB : Cell} (hcell : T.heap[b]? = some cellB) (hobj : cellB.vm.isStatics = false) (hcls : s.vm.findClass C = some cellB.cls)
    {g : JFrame} (hg : g.method = m) (hsize : g.locals.size = c.maxLocals) {argsL rest : List Value} (hlen : ∀ sig, parseMethodDescriptor x.desc = some sig → argsL.length = sig.parameters.length)
    (hstack : g.stack = argsL.reverse ++ .ref b :: rest) (hW : 2 * g.monitorRoom + (rest.map fun v => v.category).sum ≤ W) (hdg : decode c.code g.pc = .ok (.invokevirtual index, 3))
    (hpre : ∀ vm₁, s.WarmedH vm₁ → Pre ⟨T.setVm vm₁, locs, cells, slots⟩ (Value.ref b :: argsL).toArray) :
    (∃ (v : Option Value) (vm₁ : Vm) (B : Pt), s.WarmedH vm₁ ∧ Stand p l e R s m args below meth c B.U B.locs B.cells B.slots ∧ Post ⟨T.setVm vm₁, locs, cells, slots⟩ (Value.ref b :: argsL).toArray v B ∧
      ∀ target, Steps p.tables e below (B.U.setTop { g with pc := g.pc + 3, stack := v.toList ++ rest }) target → Steps p.tables e below (T.setTop g) target) ∨
    (∃ (q : Addr) (vm₁ : Vm) (B : Pt), s.WarmedH vm₁ ∧ Stand p l e R s m args below meth c B.U B.locs B.cells B.slots ∧ PostX ⟨T.setVm vm₁, locs, cells, slots⟩ (Value.ref b :: argsL).toArray q B ∧
      Steps p.tables e below (T.setTop g) ((B.U.setTop { g with stack := rest }).pushFrame (.throwing q))) := by
  obtain ⟨r0, r, hn, hrm, hstR, hsigR⟩ := hd0
  obtain ⟨cn, ck, r1, hcn, hck, hni, hf, hn1⟩ := Cond.sameMethod_found hsame
  cases hn.symm.trans hn1
  obtain ⟨mk, methM, hnamed, hmethM, -, habM⟩ := Cond.instanceMethod_spec hinst
  obtain ⟨c2, r2, m2, q1, q2, q3, q4, kP, hkP, hkPi⟩ := Cond.selects_spec hsel
  cases hcls.symm.trans q1
  cases hf.symm.trans q2
  cases hnamed.symm.trans q3
  have hselP : selectMethod e.platform s.vm cellB.cls r0 = .method mk := by rw [Launch.admits_selectMethod X.admits]; exact q4
  obtain ⟨vm₁, X₁, hstep₁⟩ := X.invokevirtualUp hexec hown hlink hsame howner hn hrm hstR (a := b) (cell := cellB) hcell
    (fun z h => by rw [h] at hobj; cases hobj) hselP hmethM habM hkP hkPi (g := g) hg (argsL := argsL) (rest := rest) (hlen _ hsigR) hstack hdg
  rcases hK m meth c ⟨T.setVm vm₁, locs, cells, slots⟩ { g with stack := rest } (.invokevirtual index) mk (Value.ref b :: argsL).toArray X₁ hg hsize hdg hW (X₁.named hnamed) (hpre vm₁ X₁.warmed) with ⟨v, B, X', hpost, hsteps⟩ | ⟨q, B, X', hpost, hsteps⟩
  · exact Or.inl ⟨v, vm₁, B, X₁.warmed, X', hpost, fun target h => hstep₁ _ fun acts => by rw [doInvoke_state]; exact hsteps.trans h⟩
  · exact Or.inr ⟨q, vm₁, B, X₁.warmed, X', hpost, hstep₁ _ fun acts => by rw [doInvoke_state]; exact hsteps⟩
theorem vx_runU {x y : MethodName} {bytes cc : ByteArray} {maxL nL mc ms n index : Nat} {ret : Option FieldType} {ws : List Cond} {rm : Room} {Pc : Array Value → State → Prop} {Qc : Array Value → State → Outcome → State → Prop} {XC : String → State → State → Prop} {free : Addr → Prop} {Ts : List Cond} {own C owner : String} {b : Addr} {As rest : List Value} {g : JFrame}
    (S : CallFix p m c cc nL s args Ts own) (hM : vx_Met l y ws rm Pc Qc XC mc ms free) (cw : va_CU R s args own C owner index x y bytes maxL ret ws rm mc ms n) (hp : PreV s H C b Pc As)
    (hg : g.method = m) (hn : As.length = n) (hsize : g.locals.size = nL) (hstack : g.stack = As.reverse ++ .ref b :: rest) (hW : 2 * g.monitorRoom + (rest.map fun v => v.category).sum ≤ 8) (hdg : decode cc g.pc = .ok (.invokevirtual index, 3)) (hf : cells + mc ≤ R.cells ∧ slots + ms ≤ R.slots) :
    vx_Run p l e R s m args below meth c H locs cells slots mc ms g rest (Qc (Value.ref b :: As).toArray) XC free := by
  obtain ⟨hrc, hrs, hfr, hlo, hws, hcw⟩ := cw.back
  have hini := cw.init
  have hK : vx_Back l R p e below s args y 3 8 (PreOf R mc ms Pc) (PostOf Qc mc ms free) (vx_Post XC mc ms free) := vx_back (bytes := bytes) (maxL := maxL) (ret := ret) hM hp.1 hrc hrs hfr hlo hws hcw (fun a' U hW => word_at hW (Or.inl (by first | rfl | simp [Cond.onTables, Cond.keeps, Cond.steady])) hini)
  obtain ⟨hx, hb, hml, ho, -⟩ := S
  obtain ⟨-, ⟨cellB, hcB, hoB, hclB⟩, hPc⟩ := hp
  intro T hT X
  rcases vx_callVU X hx (C := C) (owner := owner) (bytes := bytes) (maxL := maxL) (ret := ret) ho cw.link cw.same cw.decl cw.notMH cw.sel cw.inst cw.code hK (by rw [hT]; exact hcB) hoB hclB hg (hsize.trans hml.symm) (argsL := As) (rest := rest) (fun sig h => hn.trans (cw.len sig h)) hstack hW (by rw [hb]; exact hdg)
    (fun vm₁ hW₁ => ⟨hf.1, hf.2, hPc (T.setVm vm₁) hT hW₁⟩) with ⟨v, vm₁, ⟨U', l2, c2, s2⟩, hW₁, X', ⟨g', mk, t, L, e1, e2, hq, h1, hL, h2, h3⟩, st⟩ | ⟨q, vm₁, ⟨U', l2, c2, s2⟩, hW₁, X', ⟨g', mk, t, L, E, ce, e1, e2, hq, hce, hcv, hcl, h1, hL, h2, h3⟩, st⟩
  · dsimp only [Pt.U, Pt.locs, Pt.cells, Pt.slots] at X' e1 e2 h1 h2 h3 st
    subst h1; subst h2; subst h3
    exact Or.inl ⟨v, (T.setVm vm₁).calling g' mk (Value.ref b :: As).toArray, t, U', L, hT, X', hL, e1, e2, hq, st⟩
  · dsimp only [Pt.U, Pt.locs, Pt.cells, Pt.slots] at X' e1 e2 h1 h2 h3 st hcl
    subst h1; subst h2; subst h3
    exact Or.inr ⟨q, (T.setVm vm₁).calling g' mk (Value.ref b :: As).toArray, t, U', L, E, ce, hT, X', hL, e1, e2, hq, hce, hcv, vx_cls hW₁ hcl, st⟩
end
/-! ===== END ===== -/
/-! ===== BEGIN a private method of a nest mate that may throw (follows va_callVN, va_callSN, va_runVN, va_runSN) ===== -/
section
variable {p : Program} {l : Launch} {e : Env} {R : Room} {s : State} {m : MethodId} {args : Array Value} {below : List Frame} {meth : Method} {c : Code} {H : Heap} {locs : List Loc} {cells slots : Nat}
variable {T : State}
theorem vx_callVN (X : Stand p l e R s m args below meth c T locs cells slots) (hexec : p.tables.exec = Jvm.exec) {own C : String} {index : Nat} {host : String} {y : MethodName} {bytes : ByteArray} {maxL : Nat} {ret : Option FieldType}
    (hown : s.vm.findClass own = some m.cls) (hlink : (Cond.methodLinkNest own index y host).before args s = true) (hinst : (Cond.instanceMethod y).before args s = true) (hsel : (Cond.selects C y y).before args s = true)
    (hcode : (Cond.code y bytes maxL ret).before args s = true) (hy : y.cls ≠ "java/lang/invoke/MethodHandle" ∧ y.cls ≠ "java/lang/invoke/VarHandle")
    {W : Nat} {Pre : Pt → Array Value → Prop} {Post : Pt → Array Value → Option Value → Pt → Prop} {PostX : Pt → Array Value → Addr → Pt → Prop} (hK : vx_Back l R p e below s args y 3 W Pre Post PostX)
    {b : Addr} {cellB : Cell} (hcell : T.heap[b]? = some cellB) (hobj : cellB.vm.isStatics = false) (hcls : s.vm.findClass C = some cellB.cls)
    {g : JFrame} (hg : g.method = m) (hsize : g.locals.size = c.maxLocals) {argsL rest : List Value} (hlen : ∀ sig, parseMethodDescriptor y.desc = some sig → argsL.length = sig.parameters.length)
    (hstack : g.stack = argsL.reverse ++ .ref b :: rest) (hW : 2 * g.monitorRoom + (rest.map fun v => v.category).sum ≤ W) (hdg : decode c.code g.pc = .ok (.invokevirtual index, 3))
    (hpre : ∀ vm₁, s.WarmedH vm₁ → Pre ⟨T.setVm vm₁, locs, cells, slots⟩ (Value.ref b :: argsL).toArray) :
    (∃ (v : Option Value) (vm₁ : Vm) (B : Pt), s.WarmedH vm₁ ∧ Stand p l e R s m args below meth c B.U B.locs B.cells B.slots ∧ Post ⟨T.setVm vm₁, locs, cells, slots⟩ (Value.ref b :: argsL).toArray v B ∧
      ∀ target, Steps p.tables e below (B.U.setTop { g with pc := g.pc + 3, stack := v.toList ++ rest }) target → Steps p.tables e below (T.setTop g) target) ∨
    (∃ (q : Addr) (vm₁ : Vm) (B : Pt), s.WarmedH vm₁ ∧ Stand p l e R s m args below meth c B.U B.locs B.cells B.slots ∧ PostX ⟨T.setVm vm₁, locs, cells, slots⟩ (Value.ref b :: argsL).toArray q B ∧
      Steps p.tables e below (T.setTop g) ((B.U.setTop { g with stack := rest }).pushFrame (.throwing q))) := by
  obtain ⟨mk, methM, hnamed, hmethM, hstM, habM⟩ := Cond.instanceMethod_spec hinst
  obtain ⟨methM', cM, hmethM', -, -, -, -, -, -, hsigM⟩ := Cond.code_spec hnamed hcode
  cases hmethM.symm.trans hmethM'
  obtain ⟨c2, r2, m2, q1, q2, q3, q4, kP, hkP, hkPi⟩ := Cond.selects_spec hsel
  cases hcls.symm.trans q1
  cases (State.methodFound?_of_named hnamed hy).symm.trans q2
  cases hnamed.symm.trans q3
  have hselP : selectMethod e.platform s.vm cellB.cls mk = .method mk := by rw [Launch.admits_selectMethod X.admits]; exact q4
  obtain ⟨vm₁, X₁, hstep₁⟩ := X.invokevirtualNest hexec hown hlink hnamed hmethM hstM hkP hkPi hy (a := b) (cell := cellB) hcell
    (fun z h => by rw [h] at hobj; cases hobj) hselP hmethM habM hkP hkPi (g := g) hg (argsL := argsL) (rest := rest) (hlen _ hsigM) hstack hdg
  rcases hK m meth c ⟨T.setVm vm₁, locs, cells, slots⟩ { g with stack := rest } (.invokevirtual index) mk (Value.ref b :: argsL).toArray X₁ hg hsize hdg hW (X₁.named hnamed) (hpre vm₁ X₁.warmed) with ⟨v, B, X', hpost, hsteps⟩ | ⟨q, B, X', hpost, hsteps⟩
  · exact Or.inl ⟨v, vm₁, B, X₁.warmed, X', hpost, fun target h => hstep₁ _ fun acts => by rw [doInvoke_state]; exact hsteps.trans h⟩
  · exact Or.inr ⟨q, vm₁, B, X₁.warmed, X', hpost, hstep₁ _ fun acts => by rw [doInvoke_state]; exact hsteps⟩
theorem vx_callSN (X : Stand p l e R s m args below meth c T locs cells slots) (hexec : p.tables.exec = Jvm.exec) {own : String} {index : Nat} {host : String} {y : MethodName} {bytes : ByteArray} {maxL : Nat} {ret : Option FieldType}
    (hown : s.vm.findClass own = some m.cls) (hlink : (Cond.methodLinkNest own index y host).before args s = true) (hstat : (Cond.static y).before args s = true) (hinit : (Cond.initialized y.cls).before args s = true)
    (hcode : (Cond.code y bytes maxL ret).before args s = true) (hy : y.cls ≠ "java/lang/invoke/MethodHandle" ∧ y.cls ≠ "java/lang/invoke/VarHandle")
    {W : Nat} {Pre : Pt → Array Value → Prop} {Post : Pt → Array Value → Option Value → Pt → Prop} {PostX : Pt → Array Value → Addr → Pt → Prop} (hK : vx_Back l R p e below s args y 3 W Pre Post PostX)
    {g : JFrame} (hg : g.method = m) (hsize : g.locals.size = c.maxLocals) {argsL rest : List Value} (hlen : ∀ sig, parseMethodDescriptor y.desc = some sig → argsL.length = sig.parameters.length)
    (hstack : g.stack = argsL.reverse ++ rest) (hW : 2 * g.monitorRoom + (rest.map fun v => v.category).sum ≤ W) (hdg : decode c.code g.pc = .ok (.invokestatic index, 3))
    (hpre : ∀ vm₁, s.WarmedH vm₁ → Pre ⟨T.setVm vm₁, locs, cells, slots⟩ argsL.toArray) :
    (∃ (v : Option Value) (vm₁ : Vm) (B : Pt), s.WarmedH vm₁ ∧ Stand p l e R s m args below meth c B.U B.locs B.cells B.slots ∧ Post ⟨T.setVm vm₁, locs, cells, slots⟩ argsL.toArray v B ∧
      ∀ target, Steps p.tables e below (B.U.setTop { g with pc := g.pc + 3, stack := v.toList ++ rest }) target → Steps p.tables e below (T.setTop g) target) ∨
    (∃ (q : Addr) (vm₁ : Vm) (B : Pt), s.WarmedH vm₁ ∧ Stand p l e R s m args below meth c B.U B.locs B.cells B.slots ∧ PostX ⟨T.setVm vm₁, locs, cells, slots⟩ argsL.toArray q B ∧
      Steps p.tables e below (T.setTop g) ((B.U.setTop { g with stack := rest }).pushFrame (.throwing q))) := by
  obtain ⟨mk, hnamed⟩ := Cond.code_named hcode
  obtain ⟨methM, cM, hmethM, -, -, -, -, -, -, hsigM⟩ := Cond.code_spec hnamed hcode
  have hstatic : methM.isStatic = true := Cond.static_spec hnamed hmethM hstat
  obtain ⟨kP, hkP, -⟩ := className_of_methodNamed hnamed
  have hinitP : kP.init = .initialized := Cond.initialized_spec (findClass_of_methodNamed hnamed) hkP hinit
  obtain ⟨vm₁, X₁, hstep₁⟩ := X.invokestaticNest hexec hown hlink hnamed hmethM hstatic hkP hinitP hy (g := g) hg (argsL := argsL) (rest := rest) (hlen _ hsigM) hstack hdg
  rcases hK m meth c ⟨T.setVm vm₁, locs, cells, slots⟩ { g with stack := rest } (.invokestatic index) mk argsL.toArray X₁ hg hsize hdg hW (X₁.named hnamed) (hpre vm₁ X₁.warmed) with ⟨v, B, X', hpost, hsteps⟩ | ⟨q, B, X', hpost, hsteps⟩
  · exact Or.inl ⟨v, vm₁, B, X₁.warmed, X', hpost, fun target h => hstep₁ _ fun acts => by rw [doInvoke_state]; exact hsteps.trans h⟩
  · exact Or.inr ⟨q, vm₁, B, X₁.warmed, X', hpost, hstep₁ _ fun acts => by rw [doInvoke_state]; exact hsteps⟩
theorem vx_runVN {y : MethodName} {bytes cc : ByteArray} {maxL nL mc ms n index : Nat} {ret : Option FieldType} {ws : List Cond} {rm : Room} {Pc : Array Value → State → Prop} {Qc : Array Value → State → Outcome → State → Prop} {XC : String → State → State → Prop} {free : Addr → Prop} {Ts : List Cond} {own C host : String} {b : Addr} {As rest : List Value} {g : JFrame}
    (S : CallFix p m c cc nL s args Ts own) (hM : vx_Met l y ws rm Pc Qc XC mc ms free) (cw : va_CN R s args own index y host bytes maxL ret ws rm mc ms n ∧ (Cond.instanceMethod y).before args s = true ∧ (Cond.selects C y y).before args s = true) (hp : PreV s H C b Pc As)
    (hg : g.method = m) (hn : As.length = n) (hsize : g.locals.size = nL) (hstack : g.stack = As.reverse ++ .ref b :: rest) (hW : 2 * g.monitorRoom + (rest.map fun v => v.category).sum ≤ 8) (hdg : decode cc g.pc = .ok (.invokevirtual index, 3)) (hf : cells + mc ≤ R.cells ∧ slots + ms ≤ R.slots) :
    vx_Run p l e R s m args below meth c H locs cells slots mc ms g rest (Qc (Value.ref b :: As).toArray) XC free := by
  obtain ⟨⟨⟨hrc, hrs, hfr, hlo, hws, hcw⟩, hcode, hini, hy, hlen, hl⟩, hx1, hx2⟩ := cw
  have hK : vx_Back l R p e below s args y 3 8 (PreOf R mc ms Pc) (PostOf Qc mc ms free) (vx_Post XC mc ms free) := vx_back (bytes := bytes) (maxL := maxL) (ret := ret) hM hp.1 hrc hrs hfr hlo hws hcw (fun a' U hW => word_at hW (Or.inl (by first | rfl | simp [Cond.onTables, Cond.keeps, Cond.steady])) hini)
  obtain ⟨hx, hb, hml, ho, -⟩ := S
  obtain ⟨-, ⟨cellB, hcB, hoB, hclB⟩, hPc⟩ := hp
  intro T hT X
  rcases vx_callVN X hx (C := C) (bytes := bytes) (maxL := maxL) (ret := ret) ho hl hx1 hx2 hcode hy hK (by rw [hT]; exact hcB) hoB hclB hg (hsize.trans hml.symm) (argsL := As) (rest := rest) (fun sig h => hn.trans (hlen sig h)) hstack hW (by rw [hb]; exact hdg)
    (fun vm₁ hW₁ => ⟨hf.1, hf.2, hPc (T.setVm vm₁) hT hW₁⟩) with ⟨v, vm₁, ⟨U', l2, c2, s2⟩, hW₁, X', ⟨g', mk, t, L, e1, e2, hq, h1, hL, h2, h3⟩, st⟩ | ⟨q, vm₁, ⟨U', l2, c2, s2⟩, hW₁, X', ⟨g', mk, t, L, E, ce, e1, e2, hq, hce, hcv, hcl, h1, hL, h2, h3⟩, st⟩
  · dsimp only [Pt.U, Pt.locs, Pt.cells, Pt.slots] at X' e1 e2 h1 h2 h3 st
    subst h1; subst h2; subst h3
    exact Or.inl ⟨v, (T.setVm vm₁).calling g' mk (Value.ref b :: As).toArray, t, U', L, hT, X', hL, e1, e2, hq, st⟩
  · dsimp only [Pt.U, Pt.locs, Pt.cells, Pt.slots] at X' e1 e2 h1 h2 h3 st hcl
    subst h1; subst h2; subst h3
    exact Or.inr ⟨q, (T.setVm vm₁).calling g' mk (Value.ref b :: As).toArray, t, U', L, E, ce, hT, X', hL, e1, e2, hq, hce, hcv, vx_cls hW₁ hcl, st⟩
theorem vx_runSN {y : MethodName} {bytes cc : ByteArray} {maxL nL mc ms n index : Nat} {ret : Option FieldType} {ws : List Cond} {rm : Room} {Pc : Array Value → State → Prop} {Qc : Array Value → State → Outcome → State → Prop} {XC : String → State → State → Prop} {free : Addr → Prop} {Ts : List Cond} {own host : String} {As rest : List Value} {g : JFrame}
    (S : CallFix p m c cc nL s args Ts own) (hM : vx_Met l y ws rm Pc Qc XC mc ms free) (cw : va_CN R s args own index y host bytes maxL ret ws rm mc ms n ∧ (Cond.static y).before args s = true ∧ True) (hp : PreS s H Pc As)
    (hg : g.method = m) (hn : As.length = n) (hsize : g.locals.size = nL) (hstack : g.stack = As.reverse ++ rest) (hW : 2 * g.monitorRoom + (rest.map fun v => v.category).sum ≤ 8) (hdg : decode cc g.pc = .ok (.invokestatic index, 3)) (hf : cells + mc ≤ R.cells ∧ slots + ms ≤ R.slots) :
    vx_Run p l e R s m args below meth c H locs cells slots mc ms g rest (Qc As.toArray) XC free := by
  obtain ⟨⟨⟨hrc, hrs, hfr, hlo, hws, hcw⟩, hcode, hini, hy, hlen, hl⟩, hx1, hx2⟩ := cw
  have hK : vx_Back l R p e below s args y 3 8 (PreOf R mc ms Pc) (PostOf Qc mc ms free) (vx_Post XC mc ms free) := vx_back (bytes := bytes) (maxL := maxL) (ret := ret) hM hp.1 hrc hrs hfr hlo hws hcw (fun a' U hW => word_at hW (Or.inl (by first | rfl | simp [Cond.onTables, Cond.keeps, Cond.steady])) hini)
  obtain ⟨hx, hb, hml, ho, -⟩ := S
  have hPc := hp.2
  intro T hT X
  rcases vx_callSN X hx (bytes := bytes) (maxL := maxL) (ret := ret) ho hl hx1 hini hcode hy hK hg (hsize.trans hml.symm) (argsL := As) (rest := rest) (fun sig h => hn.trans (hlen sig h)) hstack hW (by rw [hb]; exact hdg)
    (fun vm₁ hW₁ => ⟨hf.1, hf.2, hPc (T.setVm vm₁) hT hW₁⟩) with ⟨v, vm₁, ⟨U', l2, c2, s2⟩, hW₁, X', ⟨g', mk, t, L, e1, e2, hq, h1, hL, h2, h3⟩, st⟩ | ⟨q, vm₁, ⟨U', l2, c2, s2⟩, hW₁, X', ⟨g', mk, t, L, E, ce, e1, e2, hq, hce, hcv, hcl, h1, hL, h2, h3⟩, st⟩
  · dsimp only [Pt.U, Pt.locs, Pt.cells, Pt.slots] at X' e1 e2 h1 h2 h3 st
    subst h1; subst h2; subst h3
    exact Or.inl ⟨v, (T.setVm vm₁).calling g' mk As.toArray, t, U', L, hT, X', hL, e1, e2, hq, st⟩
  · dsimp only [Pt.U, Pt.locs, Pt.cells, Pt.slots] at X' e1 e2 h1 h2 h3 st hcl
    subst h1; subst h2; subst h3
    exact Or.inr ⟨q, (T.setVm vm₁).calling g' mk As.toArray, t, U', L, E, ce, hT, X', hL, e1, e2, hq, hce, hcv, vx_cls hW₁ hcl, st⟩
end
/-! ===== END ===== -/
end
section
def RX0 : String := "PutOffParade$Choosing"
def TX0 : u_T := fun k => match k with
  | 0 => ("PutOffParade$Choosing", "places", "[I", true)
  | _ => ("PutOffParade$Choosing", "shames", "[I", true)
def tyX0 : Nat → FieldType := fun k => match k with
  | 0 => .array .int
  | _ => .array .int
theorem nmX0 : ∀ a, a < 2 → ∀ b, b < 2 → a ≠ b → (TX0 a).2.1 ≠ (TX0 b).2.1 := by decide +kernel
theorem tyX0_ok : ∀ k, k < 2 → parseFieldDescriptor (TX0 k).2.2.1 = some (tyX0 k) := by decide +kernel
abbrev cX0_init : ByteArray := prog_2_method_1_code
def yX0_init : MethodName := ⟨RX0, "<init>", "()V"⟩
abbrev cX0_mostCalled : ByteArray := prog_2_method_2_code
def yX0_mostCalled : MethodName := ⟨RX0, "mostCalled", "(LPutOffParade$Street;)I"⟩
abbrev cX0_canBeCalledTogether : ByteArray := prog_2_method_3_code
def yX0_canBeCalledTogether : MethodName := ⟨RX0, "canBeCalledTogether", "(LPutOffParade$Street;I)Z"⟩
abbrev cX0_leastShame : ByteArray := prog_2_method_4_code
def yX0_leastShame : MethodName := ⟨RX0, "leastShame", "(LPutOffParade$Street;LPutOffParade$Law;I)I"⟩
abbrev cX0_leansWithin : ByteArray := prog_2_method_5_code
def yX0_leansWithin : MethodName := ⟨RX0, "leansWithin", "(LPutOffParade$Street;I)Z"⟩
abbrev cX0_firstSwap : ByteArray := prog_2_method_6_code
def yX0_firstSwap : MethodName := ⟨RX0, "firstSwap", "(LPutOffParade$Street;II)I"⟩
abbrev cX0_gainOf : ByteArray := prog_2_method_7_code
def yX0_gainOf : MethodName := ⟨RX0, "gainOf", "(LPutOffParade$Street;II)I"⟩
abbrev cX0_restingChoices : ByteArray := prog_2_method_8_code
def yX0_restingChoices : MethodName := ⟨RX0, "restingChoices", "(II)I"⟩
abbrev cX0_isBest : ByteArray := prog_2_method_9_code
def yX0_isBest : MethodName := ⟨RX0, "isBest", "(IIII)Z"⟩
abbrev cX0_payOf : ByteArray := prog_2_method_10_code
def yX0_payOf : MethodName := ⟨RX0, "payOf", "(IIII)I"⟩
abbrev cX0_oddsOf : ByteArray := prog_2_method_11_code
def yX0_oddsOf : MethodName := ⟨RX0, "oddsOf", "(III)I"⟩
abbrev cX0_power : ByteArray := prog_2_method_12_code
def yX0_power : MethodName := ⟨RX0, "power", "(II)J"⟩
abbrev cX0_daysToLeaveFree : ByteArray := prog_2_method_13_code
def yX0_daysToLeaveFree : MethodName := ⟨RX0, "daysToLeaveFree", "(III)I"⟩
def RX1 : String := "PutOffParade$Floats"
def TX1 : u_T := fun k => match k with
  | 0 => ("PutOffParade$Floats", "rows", "I", false)
  | 1 => ("PutOffParade$Floats", "nextRow", "I", false)
  | _ => ("PutOffParade$Floats", "numbers", "[I", true)
def tyX1 : Nat → FieldType := fun k => match k with
  | 0 => .int
  | 1 => .int
  | _ => .array .int
theorem nmX1 : ∀ a, a < 3 → ∀ b, b < 3 → a ≠ b → (TX1 a).2.1 ≠ (TX1 b).2.1 := by decide +kernel
theorem tyX1_ok : ∀ k, k < 3 → parseFieldDescriptor (TX1 k).2.2.1 = some (tyX1 k) := by decide +kernel
abbrev cX1_init : ByteArray := prog_3_method_1_code
def yX1_init : MethodName := ⟨RX1, "<init>", "()V"⟩
abbrev cX1_copyFrom : ByteArray := prog_3_method_2_code
def yX1_copyFrom : MethodName := ⟨RX1, "copyFrom", "(LPutOffParade$Floats;)V"⟩
abbrev cX1_add : ByteArray := prog_3_method_3_code
def yX1_add : MethodName := ⟨RX1, "add", "(IIII)V"⟩
abbrev cX1_valueOf : ByteArray := prog_3_method_4_code
def yX1_valueOf : MethodName := ⟨RX1, "valueOf", "(II)I"⟩
abbrev cX1_rowsOf : ByteArray := prog_3_method_5_code
def yX1_rowsOf : MethodName := ⟨RX1, "rowsOf", "(I)I"⟩
abbrev cX1_latestMonthOf : ByteArray := prog_3_method_6_code
def yX1_latestMonthOf : MethodName := ⟨RX1, "latestMonthOf", "(I)I"⟩
def RX2 : String := "PutOffParade$Law"
def TX2 : u_T := fun k => match k with
  | 0 => ("PutOffParade$Law", "lines", "I", false)
  | 1 => ("PutOffParade$Law", "length", "I", false)
  | 2 => ("PutOffParade$Law", "kind", "[I", true)
  | 3 => ("PutOffParade$Law", "number", "[I", true)
  | 4 => ("PutOffParade$Law", "from", "[I", true)
  | 5 => ("PutOffParade$Law", "to", "[I", true)
  | 6 => ("PutOffParade$Law", "code", "[I", true)
  | 7 => ("PutOffParade$Law", "parts", "[I", true)
  | _ => ("PutOffParade$Law", "stack", "[I", true)
def tyX2 : Nat → FieldType := fun k => match k with
  | 0 => .int
  | 1 => .int
  | 2 => .array .int
  | 3 => .array .int
  | 4 => .array .int
  | 5 => .array .int
  | 6 => .array .int
  | 7 => .array .int
  | _ => .array .int
theorem nmX2 : ∀ a, a < 9 → ∀ b, b < 9 → a ≠ b → (TX2 a).2.1 ≠ (TX2 b).2.1 := by decide +kernel
theorem tyX2_ok : ∀ k, k < 9 → parseFieldDescriptor (TX2 k).2.2.1 = some (tyX2 k) := by decide +kernel
abbrev cX2_init : ByteArray := prog_4_method_1_code
def yX2_init : MethodName := ⟨RX2, "<init>", "()V"⟩
abbrev cX2_copyFrom : ByteArray := prog_4_method_2_code
def yX2_copyFrom : MethodName := ⟨RX2, "copyFrom", "(LPutOffParade$Law;)V"⟩
abbrev cX2_clear : ByteArray := prog_4_method_3_code
def yX2_clear : MethodName := ⟨RX2, "clear", "()V"⟩
abbrev cX2_openLine : ByteArray := prog_4_method_4_code
def yX2_openLine : MethodName := ⟨RX2, "openLine", "(II)V"⟩
abbrev cX2_emit : ByteArray := prog_4_method_5_code
def yX2_emit : MethodName := ⟨RX2, "emit", "(I)V"⟩
abbrev cX2_closeLine : ByteArray := prog_4_method_6_code
def yX2_closeLine : MethodName := ⟨RX2, "closeLine", "()V"⟩
abbrev cX2_growthOf : ByteArray := prog_4_method_7_code
def yX2_growthOf : MethodName := ⟨RX2, "growthOf", "(LPutOffParade$Street;I)I"⟩
abbrev cX2_shameOf : ByteArray := prog_4_method_8_code
def yX2_shameOf : MethodName := ⟨RX2, "shameOf", "(LPutOffParade$Street;I)I"⟩
abbrev cX2_shameOfSet : ByteArray := prog_4_method_9_code
def yX2_shameOfSet : MethodName := ⟨RX2, "shameOfSet", "(LPutOffParade$Street;I)I"⟩
abbrev cX2_takeParts : ByteArray := prog_4_method_10_code
def yX2_takeParts : MethodName := ⟨RX2, "takeParts", "(LPutOffParade$Street;I)V"⟩
abbrev cX2_setPart : ByteArray := prog_4_method_11_code
def yX2_setPart : MethodName := ⟨RX2, "setPart", "(II)V"⟩
abbrev cX2_sumOfLines : ByteArray := prog_4_method_12_code
def yX2_sumOfLines : MethodName := ⟨RX2, "sumOfLines", "(I)I"⟩
abbrev cX2_holds : ByteArray := prog_4_method_13_code
def yX2_holds : MethodName := ⟨RX2, "holds", "(I)Z"⟩
abbrev cX2_joined : ByteArray := prog_4_method_14_code
def yX2_joined : MethodName := ⟨RX2, "joined", "(III)I"⟩
def RX3 : String := "PutOffParade$LawReader"
def TX3 : u_T := fun k => match k with
  | 0 => ("PutOffParade$TextReader", "tokens", "LPutOffParade$Tokens;", true)
  | 1 => ("PutOffParade$TextReader", "mostLines", "I", true)
  | 2 => ("PutOffParade$LawReader", "draft", "LPutOffParade$Law;", true)
  | 3 => ("PutOffParade$LawReader", "waiting", "[I", true)
  | 4 => ("PutOffParade$LawReader", "held", "I", false)
  | _ => ("PutOffParade$LawReader", "depth", "I", false)
def tyX3 : Nat → FieldType := fun k => match k with
  | 0 => .object "PutOffParade$Tokens"
  | 1 => .int
  | 2 => .object "PutOffParade$Law"
  | 3 => .array .int
  | 4 => .int
  | _ => .int
theorem nmX3 : ∀ a, a < 6 → ∀ b, b < 6 → a ≠ b → (TX3 a).2.1 ≠ (TX3 b).2.1 := by decide +kernel
theorem tyX3_ok : ∀ k, k < 6 → parseFieldDescriptor (TX3 k).2.2.1 = some (tyX3 k) := by decide +kernel
abbrev cX3_init : ByteArray := prog_5_method_1_code
def yX3_init : MethodName := ⟨RX3, "<init>", "()V"⟩
abbrev cX3_readLine : ByteArray := prog_5_method_2_code
def yX3_readLine : MethodName := ⟨RX3, "readLine", "()Z"⟩
abbrev cX3_takeKind : ByteArray := prog_5_method_3_code
def yX3_takeKind : MethodName := ⟨RX3, "takeKind", "()I"⟩
abbrev cX3_readCondition : ByteArray := prog_5_method_4_code
def yX3_readCondition : MethodName := ⟨RX3, "readCondition", "()Z"⟩
abbrev cX3_joinAtHand : ByteArray := prog_5_method_5_code
def yX3_joinAtHand : MethodName := ⟨RX3, "joinAtHand", "()I"⟩
abbrev cX3_openDeeper : ByteArray := prog_5_method_6_code
def yX3_openDeeper : MethodName := ⟨RX3, "openDeeper", "()Z"⟩
abbrev cX3_closeDeeper : ByteArray := prog_5_method_7_code
def yX3_closeDeeper : MethodName := ⟨RX3, "closeDeeper", "()V"⟩
abbrev cX3_hold : ByteArray := prog_5_method_8_code
def yX3_hold : MethodName := ⟨RX3, "hold", "(I)V"⟩
abbrev cX3_emitHeld : ByteArray := prog_5_method_9_code
def yX3_emitHeld : MethodName := ⟨RX3, "emitHeld", "(I)V"⟩
abbrev cX3_readAtom : ByteArray := prog_5_method_10_code
def yX3_readAtom : MethodName := ⟨RX3, "readAtom", "()Z"⟩
abbrev cX3_readSum : ByteArray := prog_5_method_11_code
def yX3_readSum : MethodName := ⟨RX3, "readSum", "()Z"⟩
abbrev cX3_partAtHand : ByteArray := prog_5_method_12_code
def yX3_partAtHand : MethodName := ⟨RX3, "partAtHand", "()I"⟩
def RX4 : String := "PutOffParade$Leaning"
def TX4 : u_T := fun k => match k with
  | _ => ("", "", "", false)
def tyX4 : Nat → FieldType := fun k => match k with
  | _ => .int
theorem nmX4 : ∀ a, a < 0 → ∀ b, b < 0 → a ≠ b → (TX4 a).2.1 ≠ (TX4 b).2.1 := by decide +kernel
theorem tyX4_ok : ∀ k, k < 0 → parseFieldDescriptor (TX4 k).2.2.1 = some (tyX4 k) := by decide +kernel
abbrev cX4_chainOf : ByteArray := prog_6_method_2_code
def yX4_chainOf : MethodName := ⟨RX4, "chainOf", "(LPutOffParade$Street;I)I"⟩
abbrev cX4_leaningOn : ByteArray := prog_6_method_3_code
def yX4_leaningOn : MethodName := ⟨RX4, "leaningOn", "(LPutOffParade$Street;I)I"⟩
abbrev cX4_ringBits : ByteArray := prog_6_method_4_code
def yX4_ringBits : MethodName := ⟨RX4, "ringBits", "(LPutOffParade$Street;)I"⟩
abbrev cX4_hoursTill : ByteArray := prog_6_method_5_code
def yX4_hoursTill : MethodName := ⟨RX4, "hoursTill", "(LPutOffParade$Street;I)I"⟩
abbrev cX4_hoursTillYoung : ByteArray := prog_6_method_6_code
def yX4_hoursTillYoung : MethodName := ⟨RX4, "hoursTillYoung", "(LPutOffParade$Street;I)I"⟩
abbrev cX4_hoursOf : ByteArray := prog_6_method_7_code
def yX4_hoursOf : MethodName := ⟨RX4, "hoursOf", "(LPutOffParade$Street;I)I"⟩
def RX5 : String := "PutOffParade$Street"
def TX5 : u_T := fun k => match k with
  | 0 => ("PutOffParade$Street", "people", "I", false)
  | 1 => ("PutOffParade$Street", "kerb", "[I", true)
  | 2 => ("PutOffParade$Street", "free", "[I", true)
  | 3 => ("PutOffParade$Street", "duties", "I", false)
  | 4 => ("PutOffParade$Street", "owner", "[I", true)
  | 5 => ("PutOffParade$Street", "left", "[I", true)
  | 6 => ("PutOffParade$Street", "age", "[I", true)
  | 7 => ("PutOffParade$Street", "tool", "[I", true)
  | 8 => ("PutOffParade$Street", "leans", "[I", true)
  | 9 => ("PutOffParade$Street", "state", "[I", true)
  | 10 => ("PutOffParade$Street", "day", "I", false)
  | 11 => ("PutOffParade$Street", "month", "I", false)
  | 12 => ("PutOffParade$Street", "ill", "I", false)
  | 13 => ("PutOffParade$Street", "pace", "I", false)
  | 14 => ("PutOffParade$Street", "price", "I", false)
  | 15 => ("PutOffParade$Street", "seed", "I", false)
  | 16 => ("PutOffParade$Street", "texts", "I", false)
  | _ => ("PutOffParade$Street", "floats", "LPutOffParade$Floats;", true)
def tyX5 : Nat → FieldType := fun k => match k with
  | 0 => .int
  | 1 => .array .int
  | 2 => .array .int
  | 3 => .int
  | 4 => .array .int
  | 5 => .array .int
  | 6 => .array .int
  | 7 => .array .int
  | 8 => .array .int
  | 9 => .array .int
  | 10 => .int
  | 11 => .int
  | 12 => .int
  | 13 => .int
  | 14 => .int
  | 15 => .int
  | 16 => .int
  | _ => .object "PutOffParade$Floats"
theorem nmX5 : ∀ a, a < 18 → ∀ b, b < 18 → a ≠ b → (TX5 a).2.1 ≠ (TX5 b).2.1 := by decide +kernel
theorem tyX5_ok : ∀ k, k < 18 → parseFieldDescriptor (TX5 k).2.2.1 = some (tyX5 k) := by decide +kernel
abbrev cX5_init : ByteArray := prog_7_method_1_code
def yX5_init : MethodName := ⟨RX5, "<init>", "()V"⟩
abbrev cX5_copyFrom : ByteArray := prog_7_method_2_code
def yX5_copyFrom : MethodName := ⟨RX5, "copyFrom", "(LPutOffParade$Street;)V"⟩
abbrev cX5_copyAll : ByteArray := prog_7_method_3_code
def yX5_copyAll : MethodName := ⟨RX5, "copyAll", "(LPutOffParade$Street;)V"⟩
abbrev cX5_addPerson : ByteArray := prog_7_method_4_code
def yX5_addPerson : MethodName := ⟨RX5, "addPerson", "(II)V"⟩
abbrev cX5_addDuty : ByteArray := prog_7_method_5_code
def yX5_addDuty : MethodName := ⟨RX5, "addDuty", "(IIIII)V"⟩
abbrev cX5_isWaiting : ByteArray := prog_7_method_6_code
def yX5_isWaiting : MethodName := ⟨RX5, "isWaiting", "(I)Z"⟩
abbrev cX5_leansFreely : ByteArray := prog_7_method_7_code
def yX5_leansFreely : MethodName := ⟨RX5, "leansFreely", "(I)Z"⟩
abbrev cX5_isReady : ByteArray := prog_7_method_8_code
def yX5_isReady : MethodName := ⟨RX5, "isReady", "(I)Z"⟩
abbrev cX5_areAlike : ByteArray := prog_7_method_9_code
def yX5_areAlike : MethodName := ⟨RX5, "areAlike", "(II)Z"⟩
abbrev cX5_bitsIn : ByteArray := prog_7_method_10_code
def yX5_bitsIn : MethodName := ⟨RX5, "bitsIn", "(I)I"⟩
abbrev cX5_readyBits : ByteArray := prog_7_method_11_code
def yX5_readyBits : MethodName := ⟨RX5, "readyBits", "()I"⟩
abbrev cX5_olderThan : ByteArray := prog_7_method_12_code
def yX5_olderThan : MethodName := ⟨RX5, "olderThan", "(I)I"⟩
abbrev cX5_ownedBy : ByteArray := prog_7_method_13_code
def yX5_ownedBy : MethodName := ⟨RX5, "ownedBy", "(I)I"⟩
abbrev cX5_loadOf : ByteArray := prog_7_method_14_code
def yX5_loadOf : MethodName := ⟨RX5, "loadOf", "(I)I"⟩
abbrev cX5_standingBetween : ByteArray := prog_7_method_15_code
def yX5_standingBetween : MethodName := ⟨RX5, "standingBetween", "(II)I"⟩
abbrev cX5_placeOf : ByteArray := prog_7_method_16_code
def yX5_placeOf : MethodName := ⟨RX5, "placeOf", "(I)I"⟩
abbrev cX5_dutyAt : ByteArray := prog_7_method_17_code
def yX5_dutyAt : MethodName := ⟨RX5, "dutyAt", "(I)I"⟩
abbrev cX5_passesOf : ByteArray := prog_7_method_18_code
def yX5_passesOf : MethodName := ⟨RX5, "passesOf", "(I)I"⟩
abbrev cX5_canBits : ByteArray := prog_7_method_19_code
def yX5_canBits : MethodName := ⟨RX5, "canBits", "()I"⟩
abbrev cX5_kerbAt : ByteArray := prog_7_method_20_code
def yX5_kerbAt : MethodName := ⟨RX5, "kerbAt", "(II)I"⟩
abbrev cX5_finish : ByteArray := prog_7_method_21_code
def yX5_finish : MethodName := ⟨RX5, "finish", "(I)V"⟩
abbrev cX5_growOlder : ByteArray := prog_7_method_22_code
def yX5_growOlder : MethodName := ⟨RX5, "growOlder", "(I)V"⟩
abbrev cX5_passDay : ByteArray := prog_7_method_23_code
def yX5_passDay : MethodName := ⟨RX5, "passDay", "(LPutOffParade$Law;Z)V"⟩
abbrev cX5_daysTillDone : ByteArray := prog_7_method_24_code
def yX5_daysTillDone : MethodName := ⟨RX5, "daysTillDone", "(LPutOffParade$Law;I)I"⟩
abbrev cX5_daysTillNoneWaits : ByteArray := prog_7_method_25_code
def yX5_daysTillNoneWaits : MethodName := ⟨RX5, "daysTillNoneWaits", "(LPutOffParade$Law;)I"⟩
abbrev cX5_draw : ByteArray := prog_7_method_26_code
def yX5_draw : MethodName := ⟨RX5, "draw", "()I"⟩
abbrev cX5_work : ByteArray := prog_7_method_27_code
def yX5_work : MethodName := ⟨RX5, "work", "(II)I"⟩
abbrev cX5_passMonth : ByteArray := prog_7_method_28_code
def yX5_passMonth : MethodName := ⟨RX5, "passMonth", "(LPutOffParade$Law;)V"⟩
def RX6 : String := "PutOffParade$StreetReader"
def TX6 : u_T := fun k => match k with
  | 0 => ("PutOffParade$TextReader", "tokens", "LPutOffParade$Tokens;", true)
  | 1 => ("PutOffParade$TextReader", "mostLines", "I", true)
  | _ => ("PutOffParade$StreetReader", "draft", "LPutOffParade$Street;", true)
def tyX6 : Nat → FieldType := fun k => match k with
  | 0 => .object "PutOffParade$Tokens"
  | 1 => .int
  | _ => .object "PutOffParade$Street"
theorem nmX6 : ∀ a, a < 3 → ∀ b, b < 3 → a ≠ b → (TX6 a).2.1 ≠ (TX6 b).2.1 := by decide +kernel
theorem tyX6_ok : ∀ k, k < 3 → parseFieldDescriptor (TX6 k).2.2.1 = some (tyX6 k) := by decide +kernel
abbrev cX6_init : ByteArray := prog_8_method_1_code
def yX6_init : MethodName := ⟨RX6, "<init>", "()V"⟩
abbrev cX6_readLine : ByteArray := prog_8_method_2_code
def yX6_readLine : MethodName := ⟨RX6, "readLine", "()Z"⟩
abbrev cX6_readPerson : ByteArray := prog_8_method_3_code
def yX6_readPerson : MethodName := ⟨RX6, "readPerson", "()Z"⟩
abbrev cX6_readDuty : ByteArray := prog_8_method_4_code
def yX6_readDuty : MethodName := ⟨RX6, "readDuty", "()Z"⟩
abbrev cX6_readForgotten : ByteArray := prog_8_method_5_code
def yX6_readForgotten : MethodName := ⟨RX6, "readForgotten", "()Z"⟩
abbrev cX6_readSetting : ByteArray := prog_8_method_6_code
def yX6_readSetting : MethodName := ⟨RX6, "readSetting", "()Z"⟩
abbrev cX6_readNumberOf : ByteArray := prog_8_method_7_code
def yX6_readNumberOf : MethodName := ⟨RX6, "readNumberOf", "(LPutOffParade$Word;II)I"⟩
def RX7 : String := "PutOffParade$Tape"
def TX7 : u_T := fun k => match k with
  | 0 => ("PutOffParade$Tape", "bytes", "[B", true)
  | _ => ("PutOffParade$Tape", "length", "I", false)
def tyX7 : Nat → FieldType := fun k => match k with
  | 0 => .array .byte
  | _ => .int
theorem nmX7 : ∀ a, a < 2 → ∀ b, b < 2 → a ≠ b → (TX7 a).2.1 ≠ (TX7 b).2.1 := by decide +kernel
theorem tyX7_ok : ∀ k, k < 2 → parseFieldDescriptor (TX7 k).2.2.1 = some (tyX7 k) := by decide +kernel
abbrev cX7_init : ByteArray := prog_9_method_1_code
def yX7_init : MethodName := ⟨RX7, "<init>", "()V"⟩
abbrev cX7_append : ByteArray := prog_9_method_2_code
def yX7_append : MethodName := ⟨RX7, "append", "(I)V"⟩
abbrev cX7_byteAt : ByteArray := prog_9_method_3_code
def yX7_byteAt : MethodName := ⟨RX7, "byteAt", "(I)I"⟩
def RX8 : String := "PutOffParade$TextReader"
def TX8 : u_T := fun k => match k with
  | _ => ("", "", "", false)
def tyX8 : Nat → FieldType := fun k => match k with
  | _ => .int
theorem nmX8 : ∀ a, a < 0 → ∀ b, b < 0 → a ≠ b → (TX8 a).2.1 ≠ (TX8 b).2.1 := by decide +kernel
theorem tyX8_ok : ∀ k, k < 0 → parseFieldDescriptor (TX8 k).2.2.1 = some (tyX8 k) := by decide +kernel
abbrev cX8_init : ByteArray := prog_10_method_1_code
def yX8_init : MethodName := ⟨RX8, "<init>", "(I)V"⟩
abbrev cX8_readLines : ByteArray := prog_10_method_3_code
def yX8_readLines : MethodName := ⟨RX8, "readLines", "(LPutOffParade$Tape;)I"⟩
def RX9 : String := "PutOffParade$Tokens"
def TX9 : u_T := fun k => match k with
  | 0 => ("PutOffParade$Tokens", "kinds", "[I", true)
  | 1 => ("PutOffParade$Tokens", "begins", "[I", true)
  | 2 => ("PutOffParade$Tokens", "ends", "[I", true)
  | 3 => ("PutOffParade$Tokens", "values", "[I", true)
  | 4 => ("PutOffParade$Tokens", "size", "I", false)
  | 5 => ("PutOffParade$Tokens", "current", "I", false)
  | 6 => ("PutOffParade$Tokens", "kind", "I", false)
  | 7 => ("PutOffParade$Tokens", "begin", "I", false)
  | 8 => ("PutOffParade$Tokens", "value", "I", false)
  | _ => ("PutOffParade$Tokens", "word", "LPutOffParade$Word;", false)
def tyX9 : Nat → FieldType := fun k => match k with
  | 0 => .array .int
  | 1 => .array .int
  | 2 => .array .int
  | 3 => .array .int
  | 4 => .int
  | 5 => .int
  | 6 => .int
  | 7 => .int
  | 8 => .int
  | _ => .object "PutOffParade$Word"
theorem nmX9 : ∀ a, a < 10 → ∀ b, b < 10 → a ≠ b → (TX9 a).2.1 ≠ (TX9 b).2.1 := by decide +kernel
theorem tyX9_ok : ∀ k, k < 10 → parseFieldDescriptor (TX9 k).2.2.1 = some (tyX9 k) := by decide +kernel
abbrev cX9_init : ByteArray := prog_11_method_1_code
def yX9_init : MethodName := ⟨RX9, "<init>", "()V"⟩
abbrev cX9_scan : ByteArray := prog_11_method_2_code
def yX9_scan : MethodName := ⟨RX9, "scan", "(LPutOffParade$Tape;)V"⟩
abbrev cX9_kindOf : ByteArray := prog_11_method_3_code
def yX9_kindOf : MethodName := ⟨RX9, "kindOf", "(I)I"⟩
abbrev cX9_open : ByteArray := prog_11_method_4_code
def yX9_open : MethodName := ⟨RX9, "open", "(II)V"⟩
abbrev cX9_valueOf : ByteArray := prog_11_method_5_code
def yX9_valueOf : MethodName := ⟨RX9, "valueOf", "(LPutOffParade$Tape;I)I"⟩
abbrev cX9_wordOf : ByteArray := prog_11_method_6_code
def yX9_wordOf : MethodName := ⟨RX9, "wordOf", "(LPutOffParade$Tape;I)I"⟩
abbrev cX9_isText : ByteArray := prog_11_method_7_code
def yX9_isText : MethodName := ⟨RX9, "isText", "(LPutOffParade$Tape;ILjava/lang/String;)Z"⟩
abbrev cX9_numberOf : ByteArray := prog_11_method_8_code
def yX9_numberOf : MethodName := ⟨RX9, "numberOf", "(LPutOffParade$Tape;I)I"⟩
abbrev cX9_next : ByteArray := prog_11_method_9_code
def yX9_next : MethodName := ⟨RX9, "next", "()V"⟩
abbrev cX9_isEnd : ByteArray := prog_11_method_10_code
def yX9_isEnd : MethodName := ⟨RX9, "isEnd", "()Z"⟩
abbrev cX9_isSign : ByteArray := prog_11_method_11_code
def yX9_isSign : MethodName := ⟨RX9, "isSign", "(C)Z"⟩
abbrev cX9_takeSign : ByteArray := prog_11_method_12_code
def yX9_takeSign : MethodName := ⟨RX9, "takeSign", "(C)Z"⟩
abbrev cX9_takeWord : ByteArray := prog_11_method_13_code
def yX9_takeWord : MethodName := ⟨RX9, "takeWord", "(LPutOffParade$Word;)Z"⟩
abbrev cX9_takeNumber : ByteArray := prog_11_method_14_code
def yX9_takeNumber : MethodName := ⟨RX9, "takeNumber", "(II)I"⟩
def RX10 : String := "PutOffParade$Word"
def TX10 : u_T := fun k => match k with
  | _ => ("", "", "", false)
def tyX10 : Nat → FieldType := fun k => match k with
  | _ => .int
theorem nmX10 : ∀ a, a < 0 → ∀ b, b < 0 → a ≠ b → (TX10 a).2.1 ≠ (TX10 b).2.1 := by decide +kernel
theorem tyX10_ok : ∀ k, k < 0 → parseFieldDescriptor (TX10 k).2.2.1 = some (tyX10 k) := by decide +kernel
def RX11 : String := "PutOffParade"
def TX11 : u_T := fun k => match k with
  | 0 => ("PutOffParade", "tape", "LPutOffParade$Tape;", true)
  | 1 => ("PutOffParade", "streetReader", "LPutOffParade$StreetReader;", true)
  | 2 => ("PutOffParade", "lawReader", "LPutOffParade$LawReader;", true)
  | 3 => ("PutOffParade", "wrongByte", "I", false)
  | 4 => ("PutOffParade", "now", "LPutOffParade$Street;", true)
  | 5 => ("PutOffParade", "rule", "LPutOffParade$Law;", true)
  | 6 => ("PutOffParade", "choosing", "LPutOffParade$Choosing;", true)
  | 7 => ("PutOffParade", "later", "LPutOffParade$Street;", true)
  | 8 => ("PutOffParade", "imageStreet", "LPutOffParade$Street;", true)
  | 9 => ("PutOffParade", "imageRule", "LPutOffParade$Law;", true)
  | 10 => ("PutOffParade", "imageKept", "Z", false)
  | 11 => ("PutOffParade", "past", "[LPutOffParade$Street;", true)
  | 12 => ("PutOffParade", "firstAct", "I", false)
  | _ => ("PutOffParade", "acts", "I", false)
def tyX11 : Nat → FieldType := fun k => match k with
  | 0 => .object "PutOffParade$Tape"
  | 1 => .object "PutOffParade$StreetReader"
  | 2 => .object "PutOffParade$LawReader"
  | 3 => .int
  | 4 => .object "PutOffParade$Street"
  | 5 => .object "PutOffParade$Law"
  | 6 => .object "PutOffParade$Choosing"
  | 7 => .object "PutOffParade$Street"
  | 8 => .object "PutOffParade$Street"
  | 9 => .object "PutOffParade$Law"
  | 10 => .boolean
  | 11 => .array (.object "PutOffParade$Street")
  | 12 => .int
  | _ => .int
theorem nmX11 : ∀ a, a < 14 → ∀ b, b < 14 → a ≠ b → (TX11 a).2.1 ≠ (TX11 b).2.1 := by decide +kernel
theorem tyX11_ok : ∀ k, k < 14 → parseFieldDescriptor (TX11 k).2.2.1 = some (tyX11 k) := by decide +kernel
abbrev cX11_init : ByteArray := prog_1_method_1_code
def yX11_init : MethodName := ⟨RX11, "<init>", "()V"⟩
abbrev cX11_feed : ByteArray := prog_1_method_2_code
def yX11_feed : MethodName := ⟨RX11, "feed", "(IIIII)I"⟩
abbrev cX11_end : ByteArray := prog_1_method_3_code
def yX11_end : MethodName := ⟨RX11, "end", "(I)Z"⟩
abbrev cX11_street : ByteArray := prog_1_method_4_code
def yX11_street : MethodName := ⟨RX11, "street", "()I"⟩
abbrev cX11_law : ByteArray := prog_1_method_5_code
def yX11_law : MethodName := ⟨RX11, "law", "()I"⟩
abbrev cX11_fault : ByteArray := prog_1_method_6_code
def yX11_fault : MethodName := ⟨RX11, "fault", "()I"⟩
abbrev cX11_person : ByteArray := prog_1_method_7_code
def yX11_person : MethodName := ⟨RX11, "person", "(II)I"⟩
abbrev cX11_duty : ByteArray := prog_1_method_8_code
def yX11_duty : MethodName := ⟨RX11, "duty", "(II)I"⟩
abbrev cX11_count : ByteArray := prog_1_method_9_code
def yX11_count : MethodName := ⟨RX11, "count", "(I)I"⟩
abbrev cX11_call : ByteArray := prog_1_method_10_code
def yX11_call : MethodName := ⟨RX11, "call", "(I)I"⟩
abbrev cX11_put : ByteArray := prog_1_method_11_code
def yX11_put : MethodName := ⟨RX11, "put", "(I)I"⟩
abbrev cX11_forget : ByteArray := prog_1_method_12_code
def yX11_forget : MethodName := ⟨RX11, "forget", "(I)I"⟩
abbrev cX11_recall : ByteArray := prog_1_method_13_code
def yX11_recall : MethodName := ⟨RX11, "recall", "(I)I"⟩
abbrev cX11_hand : ByteArray := prog_1_method_14_code
def yX11_hand : MethodName := ⟨RX11, "hand", "(II)I"⟩
abbrev cX11_lean : ByteArray := prog_1_method_15_code
def yX11_lean : MethodName := ⟨RX11, "lean", "(II)I"⟩
abbrev cX11_free : ByteArray := prog_1_method_16_code
def yX11_free : MethodName := ⟨RX11, "free", "(II)I"⟩
abbrev cX11_days : ByteArray := prog_1_method_17_code
def yX11_days : MethodName := ⟨RX11, "days", "(I)I"⟩
abbrev cX11_parade : ByteArray := prog_1_method_18_code
def yX11_parade : MethodName := ⟨RX11, "parade", "(I)I"⟩
abbrev cX11_can : ByteArray := prog_1_method_19_code
def yX11_can : MethodName := ⟨RX11, "can", "()I"⟩
abbrev cX11_greets : ByteArray := prog_1_method_20_code
def yX11_greets : MethodName := ⟨RX11, "greets", "(II)I"⟩
abbrev cX11_where : ByteArray := prog_1_method_21_code
def yX11_where : MethodName := ⟨RX11, "where", "(II)I"⟩
abbrev cX11_crowd : ByteArray := prog_1_method_22_code
def yX11_crowd : MethodName := ⟨RX11, "crowd", "(III)I"⟩
abbrev cX11_most : ByteArray := prog_1_method_23_code
def yX11_most : MethodName := ⟨RX11, "most", "()I"⟩
abbrev cX11_does : ByteArray := prog_1_method_24_code
def yX11_does : MethodName := ⟨RX11, "does", "(IZ)I"⟩
abbrev cX11_soon : ByteArray := prog_1_method_25_code
def yX11_soon : MethodName := ⟨RX11, "soon", "(I)I"⟩
abbrev cX11_longest : ByteArray := prog_1_method_26_code
def yX11_longest : MethodName := ⟨RX11, "longest", "()I"⟩
abbrev cX11_ring : ByteArray := prog_1_method_27_code
def yX11_ring : MethodName := ⟨RX11, "ring", "()I"⟩
abbrev cX11_before : ByteArray := prog_1_method_28_code
def yX11_before : MethodName := ⟨RX11, "before", "(I)I"⟩
abbrev cX11_after : ByteArray := prog_1_method_29_code
def yX11_after : MethodName := ⟨RX11, "after", "(I)I"⟩
abbrev cX11_depth : ByteArray := prog_1_method_30_code
def yX11_depth : MethodName := ⟨RX11, "depth", "(I)I"⟩
abbrev cX11_young : ByteArray := prog_1_method_31_code
def yX11_young : MethodName := ⟨RX11, "young", "(I)I"⟩
abbrev cX11_older : ByteArray := prog_1_method_32_code
def yX11_older : MethodName := ⟨RX11, "older", "(I)I"⟩
abbrev cX11_whose : ByteArray := prog_1_method_33_code
def yX11_whose : MethodName := ⟨RX11, "whose", "()I"⟩
abbrev cX11_ask : ByteArray := prog_1_method_34_code
def yX11_ask : MethodName := ⟨RX11, "ask", "()I"⟩
abbrev cX11_gap : ByteArray := prog_1_method_35_code
def yX11_gap : MethodName := ⟨RX11, "gap", "()I"⟩
abbrev cX11_lost : ByteArray := prog_1_method_36_code
def yX11_lost : MethodName := ⟨RX11, "lost", "()I"⟩
abbrev cX11_missed : ByteArray := prog_1_method_37_code
def yX11_missed : MethodName := ⟨RX11, "missed", "()I"⟩
abbrev cX11_swap : ByteArray := prog_1_method_38_code
def yX11_swap : MethodName := ⟨RX11, "swap", "(II)I"⟩
abbrev cX11_rests : ByteArray := prog_1_method_39_code
def yX11_rests : MethodName := ⟨RX11, "rests", "(III)I"⟩
abbrev cX11_sponsor : ByteArray := prog_1_method_40_code
def yX11_sponsor : MethodName := ⟨RX11, "sponsor", "()I"⟩
abbrev cX11_idle : ByteArray := prog_1_method_41_code
def yX11_idle : MethodName := ⟨RX11, "idle", "()I"⟩
abbrev cX11_worst : ByteArray := prog_1_method_42_code
def yX11_worst : MethodName := ⟨RX11, "worst", "()I"⟩
abbrev cX11_alike : ByteArray := prog_1_method_43_code
def yX11_alike : MethodName := ⟨RX11, "alike", "()I"⟩
abbrev cX11_odds : ByteArray := prog_1_method_44_code
def yX11_odds : MethodName := ⟨RX11, "odds", "(II)I"⟩
abbrev cX11_spare : ByteArray := prog_1_method_45_code
def yX11_spare : MethodName := ⟨RX11, "spare", "(II)I"⟩
abbrev cX11_done : ByteArray := prog_1_method_46_code
def yX11_done : MethodName := ⟨RX11, "done", "(I)I"⟩
abbrev cX11_all : ByteArray := prog_1_method_47_code
def yX11_all : MethodName := ⟨RX11, "all", "()I"⟩
abbrev cX11_help : ByteArray := prog_1_method_48_code
def yX11_help : MethodName := ⟨RX11, "help", "()I"⟩
abbrev cX11_crux : ByteArray := prog_1_method_49_code
def yX11_crux : MethodName := ⟨RX11, "crux", "()I"⟩
abbrev cX11_sick : ByteArray := prog_1_method_50_code
def yX11_sick : MethodName := ⟨RX11, "sick", "(I)I"⟩
abbrev cX11_ahead : ByteArray := prog_1_method_51_code
def yX11_ahead : MethodName := ⟨RX11, "ahead", "(III)I"⟩
abbrev cX11_trial : ByteArray := prog_1_method_52_code
def yX11_trial : MethodName := ⟨RX11, "trial", "(IZ)I"⟩
abbrev cX11_span : ByteArray := prog_1_method_53_code
def yX11_span : MethodName := ⟨RX11, "span", "(IZ)I"⟩
abbrev cX11_led : ByteArray := prog_1_method_54_code
def yX11_led : MethodName := ⟨RX11, "led", "(IZ)I"⟩
abbrev cX11_log : ByteArray := prog_1_method_55_code
def yX11_log : MethodName := ⟨RX11, "log", "(II)I"⟩
abbrev cX11_seed : ByteArray := prog_1_method_56_code
def yX11_seed : MethodName := ⟨RX11, "seed", "(I)I"⟩
abbrev cX11_undo : ByteArray := prog_1_method_57_code
def yX11_undo : MethodName := ⟨RX11, "undo", "()Z"⟩
abbrev cX11_image : ByteArray := prog_1_method_58_code
def yX11_image : MethodName := ⟨RX11, "image", "()V"⟩
abbrev cX11_back : ByteArray := prog_1_method_59_code
def yX11_back : MethodName := ⟨RX11, "back", "()Z"⟩
abbrev cX11_needPerson : ByteArray := prog_1_method_60_code
def yX11_needPerson : MethodName := ⟨RX11, "needPerson", "(I)V"⟩
abbrev cX11_needDuty : ByteArray := prog_1_method_61_code
def yX11_needDuty : MethodName := ⟨RX11, "needDuty", "(I)V"⟩
abbrev cX11_needKerb : ByteArray := prog_1_method_62_code
def yX11_needKerb : MethodName := ⟨RX11, "needKerb", "(I)V"⟩
abbrev cX11_needNumber : ByteArray := prog_1_method_63_code
def yX11_needNumber : MethodName := ⟨RX11, "needNumber", "(III)V"⟩
abbrev cX11_needTwo : ByteArray := prog_1_method_64_code
def yX11_needTwo : MethodName := ⟨RX11, "needTwo", "(II)V"⟩
abbrev cX11_needState : ByteArray := prog_1_method_65_code
def yX11_needState : MethodName := ⟨RX11, "needState", "(II)V"⟩
abbrev cX11_pastAt : ByteArray := prog_1_method_66_code
def yX11_pastAt : MethodName := ⟨RX11, "pastAt", "(I)LPutOffParade$Street;"⟩
abbrev cX11_rememberAct : ByteArray := prog_1_method_67_code
def yX11_rememberAct : MethodName := ⟨RX11, "rememberAct", "()V"⟩
abbrev cX11_letParadeGoBy : ByteArray := prog_1_method_68_code
def yX11_letParadeGoBy : MethodName := ⟨RX11, "letParadeGoBy", "()V"⟩
abbrev cX11_shameTriedOut : ByteArray := prog_1_method_69_code
def yX11_shameTriedOut : MethodName := ⟨RX11, "shameTriedOut", "(II)I"⟩
abbrev cX11_shameOfWaiting : ByteArray := prog_1_method_70_code
def yX11_shameOfWaiting : MethodName := ⟨RX11, "shameOfWaiting", "(LPutOffParade$Street;)I"⟩
abbrev cX11_shareOf : ByteArray := prog_1_method_71_code
def yX11_shareOf : MethodName := ⟨RX11, "shareOf", "(I)I"⟩
abbrev cX11_isGap : ByteArray := prog_1_method_72_code
def yX11_isGap : MethodName := ⟨RX11, "isGap", "(I)Z"⟩
abbrev cX11_takeWhoFits : ByteArray := prog_1_method_73_code
def yX11_takeWhoFits : MethodName := ⟨RX11, "takeWhoFits", "()I"⟩
abbrev cX11_whoFits : ByteArray := prog_1_method_74_code
def yX11_whoFits : MethodName := ⟨RX11, "whoFits", "()I"⟩
abbrev cX11_kerbToAskFor : ByteArray := prog_1_method_75_code
def yX11_kerbToAskFor : MethodName := ⟨RX11, "kerbToAskFor", "(I)I"⟩
abbrev cX11_needsOf : ByteArray := prog_1_method_76_code
def yX11_needsOf : MethodName := ⟨RX11, "needsOf", "(II)I"⟩
abbrev cX11_at : ByteArray := prog_1_method_77_code
def yX11_at : MethodName := ⟨RX11, "at", "([II)I"⟩
abbrev cX11_setAt : ByteArray := prog_1_method_78_code
def yX11_setAt : MethodName := ⟨RX11, "setAt", "([III)V"⟩
abbrev cX11_copyRow : ByteArray := prog_1_method_79_code
def yX11_copyRow : MethodName := ⟨RX11, "copyRow", "([I[I)V"⟩
abbrev cX11_bit : ByteArray := prog_1_method_80_code
def yX11_bit : MethodName := ⟨RX11, "bit", "(I)I"⟩
abbrev cX11_has : ByteArray := prog_1_method_81_code
def yX11_has : MethodName := ⟨RX11, "has", "(II)Z"⟩
abbrev cX11_sumOver : ByteArray := prog_1_method_82_code
def yX11_sumOver : MethodName := ⟨RX11, "sumOver", "([II)I"⟩
def RX12 : String := "PutOffParadeModel"
def TX12 : u_T := fun k => match k with
  | 0 => ("PutOffParadeModel", "thrown", "I", false)
  | 1 => ("PutOffParadeModel", "world", "[I", true)
  | 2 => ("PutOffParadeModel", "image", "[I", true)
  | 3 => ("PutOffParadeModel", "earlier", "[I", true)
  | 4 => ("PutOffParadeModel", "trial", "[I", true)
  | 5 => ("PutOffParadeModel", "acts", "[I", true)
  | 6 => ("PutOffParadeModel", "hasImage", "Z", false)
  | 7 => ("PutOffParadeModel", "remembered", "I", false)
  | 8 => ("PutOffParadeModel", "tape", "[B", true)
  | 9 => ("PutOffParadeModel", "taped", "I", false)
  | 10 => ("PutOffParadeModel", "point", "I", false)
  | 11 => ("PutOffParadeModel", "end", "I", false)
  | 12 => ("PutOffParadeModel", "begin", "I", false)
  | 13 => ("PutOffParadeModel", "deep", "I", false)
  | 14 => ("PutOffParadeModel", "faultAt", "I", false)
  | 15 => ("PutOffParadeModel", "five", "[I", true)
  | 16 => ("PutOffParadeModel", "steps", "I", false)
  | 17 => ("PutOffParadeModel", "value", "[I", true)
  | 18 => ("PutOffParadeModel", "holder", "[I", true)
  | _ => ("PutOffParadeModel", "ways", "[J", true)
def tyX12 : Nat → FieldType := fun k => match k with
  | 0 => .int
  | 1 => .array .int
  | 2 => .array .int
  | 3 => .array .int
  | 4 => .array .int
  | 5 => .array .int
  | 6 => .boolean
  | 7 => .int
  | 8 => .array .byte
  | 9 => .int
  | 10 => .int
  | 11 => .int
  | 12 => .int
  | 13 => .int
  | 14 => .int
  | 15 => .array .int
  | 16 => .int
  | 17 => .array .int
  | 18 => .array .int
  | _ => .array .long
theorem nmX12 : ∀ a, a < 20 → ∀ b, b < 20 → a ≠ b → (TX12 a).2.1 ≠ (TX12 b).2.1 := by decide +kernel
theorem tyX12_ok : ∀ k, k < 20 → parseFieldDescriptor (TX12 k).2.2.1 = some (tyX12 k) := by decide +kernel
abbrev cX12_thrown : ByteArray := prog_14_method_1_code
def yX12_thrown : MethodName := ⟨RX12, "thrown", "()I"⟩
abbrev cX12_throwsIf : ByteArray := prog_14_method_2_code
def yX12_throwsIf : MethodName := ⟨RX12, "throwsIf", "(ZI)Z"⟩
abbrev cX12_in : ByteArray := prog_14_method_3_code
def yX12_in : MethodName := ⟨RX12, "in", "(III)Z"⟩
abbrev cX12_has : ByteArray := prog_14_method_4_code
def yX12_has : MethodName := ⟨RX12, "has", "(II)Z"⟩
abbrev cX12_init : ByteArray := prog_14_method_5_code
def yX12_init : MethodName := ⟨RX12, "<init>", "()V"⟩
abbrev cX12_image : ByteArray := prog_14_method_6_code
def yX12_image : MethodName := ⟨RX12, "image", "()V"⟩
abbrev cX12_back : ByteArray := prog_14_method_7_code
def yX12_back : MethodName := ⟨RX12, "back", "()Z"⟩
abbrev cX12_remembers : ByteArray := prog_14_method_8_code
def yX12_remembers : MethodName := ⟨RX12, "remembers", "()V"⟩
abbrev cX12_undo : ByteArray := prog_14_method_9_code
def yX12_undo : MethodName := ⟨RX12, "undo", "()Z"⟩
abbrev cX12_people : ByteArray := prog_14_method_10_code
def yX12_people : MethodName := ⟨RX12, "people", "()I"⟩
abbrev cX12_duties : ByteArray := prog_14_method_11_code
def yX12_duties : MethodName := ⟨RX12, "duties", "()I"⟩
abbrev cX12_personAt : ByteArray := prog_14_method_12_code
def yX12_personAt : MethodName := ⟨RX12, "personAt", "(II)I"⟩
abbrev cX12_ofPerson : ByteArray := prog_14_method_13_code
def yX12_ofPerson : MethodName := ⟨RX12, "ofPerson", "(II)I"⟩
abbrev cX12_at : ByteArray := prog_14_method_14_code
def yX12_at : MethodName := ⟨RX12, "at", "(II)I"⟩
abbrev cX12_of : ByteArray := prog_14_method_15_code
def yX12_of : MethodName := ⟨RX12, "of", "(II)I"⟩
abbrev cX12_isWaiting : ByteArray := prog_14_method_16_code
def yX12_isWaiting : MethodName := ⟨RX12, "isWaiting", "(I)Z"⟩
abbrev cX12_isDone : ByteArray := prog_14_method_17_code
def yX12_isDone : MethodName := ⟨RX12, "isDone", "(I)Z"⟩
abbrev cX12_isForgotten : ByteArray := prog_14_method_18_code
def yX12_isForgotten : MethodName := ⟨RX12, "isForgotten", "(I)Z"⟩
abbrev cX12_noPerson : ByteArray := prog_14_method_19_code
def yX12_noPerson : MethodName := ⟨RX12, "noPerson", "(I)Z"⟩
abbrev cX12_noDuty : ByteArray := prog_14_method_20_code
def yX12_noDuty : MethodName := ⟨RX12, "noDuty", "(I)Z"⟩
abbrev cX12_noKerb : ByteArray := prog_14_method_21_code
def yX12_noKerb : MethodName := ⟨RX12, "noKerb", "(I)Z"⟩
abbrev cX12_drawn : ByteArray := prog_14_method_22_code
def yX12_drawn : MethodName := ⟨RX12, "drawn", "(I)I"⟩
abbrev cX12_feed : ByteArray := prog_14_method_23_code
def yX12_feed : MethodName := ⟨RX12, "feed", "(IIIII)I"⟩
abbrev cX12_end : ByteArray := prog_14_method_24_code
def yX12_end : MethodName := ⟨RX12, "end", "(I)Z"⟩
abbrev cX12_isAt : ByteArray := prog_14_method_25_code
def yX12_isAt : MethodName := ⟨RX12, "isAt", "(II)Z"⟩
abbrev cX12_blanks : ByteArray := prog_14_method_26_code
def yX12_blanks : MethodName := ⟨RX12, "blanks", "()V"⟩
abbrev cX12_letters : ByteArray := prog_14_method_27_code
def yX12_letters : MethodName := ⟨RX12, "letters", "()V"⟩
abbrev cX12_isWord : ByteArray := prog_14_method_28_code
def yX12_isWord : MethodName := ⟨RX12, "isWord", "(Ljava/lang/String;)Z"⟩
abbrev cX12_passes : ByteArray := prog_14_method_29_code
def yX12_passes : MethodName := ⟨RX12, "passes", "(Ljava/lang/String;)Z"⟩
abbrev cX12_sign : ByteArray := prog_14_method_30_code
def yX12_sign : MethodName := ⟨RX12, "sign", "(I)Z"⟩
abbrev cX12_number : ByteArray := prog_14_method_31_code
def yX12_number : MethodName := ⟨RX12, "number", "(II)I"⟩
abbrev cX12_numberBehind : ByteArray := prog_14_method_32_code
def yX12_numberBehind : MethodName := ⟨RX12, "numberBehind", "(Ljava/lang/String;II)I"⟩
abbrev cX12_fault : ByteArray := prog_14_method_33_code
def yX12_fault : MethodName := ⟨RX12, "fault", "()I"⟩
abbrev cX12_uses : ByteArray := prog_14_method_34_code
def yX12_uses : MethodName := ⟨RX12, "uses", "()V"⟩
abbrev cX12_readNumber : ByteArray := prog_14_method_35_code
def yX12_readNumber : MethodName := ⟨RX12, "readNumber", "(III)Z"⟩
abbrev cX12_readPerson : ByteArray := prog_14_method_36_code
def yX12_readPerson : MethodName := ⟨RX12, "readPerson", "()Z"⟩
abbrev cX12_readDuty : ByteArray := prog_14_method_37_code
def yX12_readDuty : MethodName := ⟨RX12, "readDuty", "()Z"⟩
abbrev cX12_readForgotten : ByteArray := prog_14_method_38_code
def yX12_readForgotten : MethodName := ⟨RX12, "readForgotten", "()Z"⟩
abbrev cX12_readStreetLine : ByteArray := prog_14_method_39_code
def yX12_readStreetLine : MethodName := ⟨RX12, "readStreetLine", "()Z"⟩
abbrev cX12_emits : ByteArray := prog_14_method_40_code
def yX12_emits : MethodName := ⟨RX12, "emits", "(II)V"⟩
abbrev cX12_wordOfPart : ByteArray := prog_14_method_41_code
def yX12_wordOfPart : MethodName := ⟨RX12, "wordOfPart", "()I"⟩
abbrev cX12_readPart : ByteArray := prog_14_method_42_code
def yX12_readPart : MethodName := ⟨RX12, "readPart", "()Z"⟩
abbrev cX12_readSum : ByteArray := prog_14_method_43_code
def yX12_readSum : MethodName := ⟨RX12, "readSum", "()Z"⟩
abbrev cX12_readTag : ByteArray := prog_14_method_44_code
def yX12_readTag : MethodName := ⟨RX12, "readTag", "()Z"⟩
abbrev cX12_readAtom : ByteArray := prog_14_method_45_code
def yX12_readAtom : MethodName := ⟨RX12, "readAtom", "()Z"⟩
abbrev cX12_readAllOf : ByteArray := prog_14_method_46_code
def yX12_readAllOf : MethodName := ⟨RX12, "readAllOf", "()Z"⟩
abbrev cX12_readCond : ByteArray := prog_14_method_47_code
def yX12_readCond : MethodName := ⟨RX12, "readCond", "()Z"⟩
abbrev cX12_readLawLine : ByteArray := prog_14_method_48_code
def yX12_readLawLine : MethodName := ⟨RX12, "readLawLine", "(I)Z"⟩
abbrev cX12_readLine : ByteArray := prog_14_method_49_code
def yX12_readLine : MethodName := ⟨RX12, "readLine", "(ZI)Z"⟩
abbrev cX12_readAll : ByteArray := prog_14_method_50_code
def yX12_readAll : MethodName := ⟨RX12, "readAll", "(Z)I"⟩
abbrev cX12_street : ByteArray := prog_14_method_51_code
def yX12_street : MethodName := ⟨RX12, "street", "()I"⟩
abbrev cX12_law : ByteArray := prog_14_method_52_code
def yX12_law : MethodName := ⟨RX12, "law", "()I"⟩
abbrev cX12_leansWell : ByteArray := prog_14_method_53_code
def yX12_leansWell : MethodName := ⟨RX12, "leansWell", "(I)Z"⟩
abbrev cX12_isReady : ByteArray := prog_14_method_54_code
def yX12_isReady : MethodName := ⟨RX12, "isReady", "(I)Z"⟩
abbrev cX12_factOf : ByteArray := prog_14_method_55_code
def yX12_factOf : MethodName := ⟨RX12, "factOf", "(III)I"⟩
abbrev cX12_holdsLine : ByteArray := prog_14_method_56_code
def yX12_holdsLine : MethodName := ⟨RX12, "holdsLine", "(II)Z"⟩
abbrev cX12_sumOf : ByteArray := prog_14_method_57_code
def yX12_sumOf : MethodName := ⟨RX12, "sumOf", "(II)I"⟩
abbrev cX12_growsBy : ByteArray := prog_14_method_58_code
def yX12_growsBy : MethodName := ⟨RX12, "growsBy", "(I)I"⟩
abbrev cX12_shamesBy : ByteArray := prog_14_method_59_code
def yX12_shamesBy : MethodName := ⟨RX12, "shamesBy", "(I)I"⟩
abbrev cX12_ofState : ByteArray := prog_14_method_60_code
def yX12_ofState : MethodName := ⟨RX12, "ofState", "(I)I"⟩
abbrev cX12_goesAhead : ByteArray := prog_14_method_61_code
def yX12_goesAhead : MethodName := ⟨RX12, "goesAhead", "(II)Z"⟩
abbrev cX12_placeOf : ByteArray := prog_14_method_62_code
def yX12_placeOf : MethodName := ⟨RX12, "placeOf", "(I)I"⟩
abbrev cX12_passesBy : ByteArray := prog_14_method_63_code
def yX12_passesBy : MethodName := ⟨RX12, "passesBy", "(I)I"⟩
abbrev cX12_canBeCalled : ByteArray := prog_14_method_64_code
def yX12_canBeCalled : MethodName := ⟨RX12, "canBeCalled", "(I)Z"⟩
abbrev cX12_canOnes : ByteArray := prog_14_method_65_code
def yX12_canOnes : MethodName := ⟨RX12, "canOnes", "()I"⟩
abbrev cX12_parade : ByteArray := prog_14_method_66_code
def yX12_parade : MethodName := ⟨RX12, "parade", "(I)I"⟩
abbrev cX12_can : ByteArray := prog_14_method_67_code
def yX12_can : MethodName := ⟨RX12, "can", "()I"⟩
abbrev cX12_greets : ByteArray := prog_14_method_68_code
def yX12_greets : MethodName := ⟨RX12, "greets", "(II)I"⟩
abbrev cX12_whereAt : ByteArray := prog_14_method_69_code
def yX12_whereAt : MethodName := ⟨RX12, "whereAt", "(II)I"⟩
abbrev cX12_noHour : ByteArray := prog_14_method_70_code
def yX12_noHour : MethodName := ⟨RX12, "noHour", "(I)Z"⟩
abbrev cX12_where : ByteArray := prog_14_method_71_code
def yX12_where : MethodName := ⟨RX12, "where", "(II)I"⟩
abbrev cX12_crowd : ByteArray := prog_14_method_72_code
def yX12_crowd : MethodName := ⟨RX12, "crowd", "(III)I"⟩
abbrev cX12_canAll : ByteArray := prog_14_method_73_code
def yX12_canAll : MethodName := ⟨RX12, "canAll", "(I)Z"⟩
abbrev cX12_most : ByteArray := prog_14_method_74_code
def yX12_most : MethodName := ⟨RX12, "most", "()I"⟩
abbrev cX12_ownedBy : ByteArray := prog_14_method_75_code
def yX12_ownedBy : MethodName := ⟨RX12, "ownedBy", "(I)I"⟩
abbrev cX12_hoursOf : ByteArray := prog_14_method_76_code
def yX12_hoursOf : MethodName := ⟨RX12, "hoursOf", "(I)I"⟩
abbrev cX12_shameOf : ByteArray := prog_14_method_77_code
def yX12_shameOf : MethodName := ⟨RX12, "shameOf", "(I)I"⟩
abbrev cX12_waitingOf : ByteArray := prog_14_method_78_code
def yX12_waitingOf : MethodName := ⟨RX12, "waitingOf", "(I)I"⟩
abbrev cX12_loadOf : ByteArray := prog_14_method_79_code
def yX12_loadOf : MethodName := ⟨RX12, "loadOf", "(I)I"⟩
abbrev cX12_daysFor : ByteArray := prog_14_method_80_code
def yX12_daysFor : MethodName := ⟨RX12, "daysFor", "(II)I"⟩
abbrev cX12_needsOf : ByteArray := prog_14_method_81_code
def yX12_needsOf : MethodName := ⟨RX12, "needsOf", "(I)I"⟩
abbrev cX12_shareOf : ByteArray := prog_14_method_82_code
def yX12_shareOf : MethodName := ⟨RX12, "shareOf", "(I)I"⟩
abbrev cX12_person : ByteArray := prog_14_method_83_code
def yX12_person : MethodName := ⟨RX12, "person", "(II)I"⟩
abbrev cX12_duty : ByteArray := prog_14_method_84_code
def yX12_duty : MethodName := ⟨RX12, "duty", "(II)I"⟩
abbrev cX12_isNow : ByteArray := prog_14_method_85_code
def yX12_isNow : MethodName := ⟨RX12, "isNow", "(II)V"⟩
abbrev cX12_finishes : ByteArray := prog_14_method_86_code
def yX12_finishes : MethodName := ⟨RX12, "finishes", "(I)V"⟩
abbrev cX12_call : ByteArray := prog_14_method_87_code
def yX12_call : MethodName := ⟨RX12, "call", "(I)I"⟩
abbrev cX12_put : ByteArray := prog_14_method_88_code
def yX12_put : MethodName := ⟨RX12, "put", "(I)I"⟩
abbrev cX12_forget : ByteArray := prog_14_method_89_code
def yX12_forget : MethodName := ⟨RX12, "forget", "(I)I"⟩
abbrev cX12_recall : ByteArray := prog_14_method_90_code
def yX12_recall : MethodName := ⟨RX12, "recall", "(I)I"⟩
abbrev cX12_hand : ByteArray := prog_14_method_91_code
def yX12_hand : MethodName := ⟨RX12, "hand", "(II)I"⟩
abbrev cX12_lean : ByteArray := prog_14_method_92_code
def yX12_lean : MethodName := ⟨RX12, "lean", "(II)I"⟩
abbrev cX12_free : ByteArray := prog_14_method_93_code
def yX12_free : MethodName := ⟨RX12, "free", "(II)I"⟩
abbrev cX12_hasTool : ByteArray := prog_14_method_94_code
def yX12_hasTool : MethodName := ⟨RX12, "hasTool", "(II)Z"⟩
abbrev cX12_works : ByteArray := prog_14_method_95_code
def yX12_works : MethodName := ⟨RX12, "works", "(I)I"⟩
abbrev cX12_growsOlder : ByteArray := prog_14_method_96_code
def yX12_growsOlder : MethodName := ⟨RX12, "growsOlder", "(I)V"⟩
abbrev cX12_tells : ByteArray := prog_14_method_97_code
def yX12_tells : MethodName := ⟨RX12, "tells", "(II)V"⟩
abbrev cX12_goesBy : ByteArray := prog_14_method_98_code
def yX12_goesBy : MethodName := ⟨RX12, "goesBy", "()V"⟩
abbrev cX12_oneDay : ByteArray := prog_14_method_99_code
def yX12_oneDay : MethodName := ⟨RX12, "oneDay", "(Z)I"⟩
abbrev cX12_goesOn : ByteArray := prog_14_method_100_code
def yX12_goesOn : MethodName := ⟨RX12, "goesOn", "(IZ)I"⟩
abbrev cX12_keepsAll : ByteArray := prog_14_method_101_code
def yX12_keepsAll : MethodName := ⟨RX12, "keepsAll", "()V"⟩
abbrev cX12_bringsBack : ByteArray := prog_14_method_102_code
def yX12_bringsBack : MethodName := ⟨RX12, "bringsBack", "()V"⟩
abbrev cX12_days : ByteArray := prog_14_method_103_code
def yX12_days : MethodName := ⟨RX12, "days", "(I)I"⟩
abbrev cX12_noDays : ByteArray := prog_14_method_104_code
def yX12_noDays : MethodName := ⟨RX12, "noDays", "(I)Z"⟩
abbrev cX12_ahead : ByteArray := prog_14_method_105_code
def yX12_ahead : MethodName := ⟨RX12, "ahead", "(III)I"⟩
abbrev cX12_overIn : ByteArray := prog_14_method_106_code
def yX12_overIn : MethodName := ⟨RX12, "overIn", "(IZ)I"⟩
abbrev cX12_allDuties : ByteArray := prog_14_method_107_code
def yX12_allDuties : MethodName := ⟨RX12, "allDuties", "()I"⟩
abbrev cX12_allOver : ByteArray := prog_14_method_108_code
def yX12_allOver : MethodName := ⟨RX12, "allOver", "()I"⟩
abbrev cX12_orNone : ByteArray := prog_14_method_109_code
def yX12_orNone : MethodName := ⟨RX12, "orNone", "(I)I"⟩
abbrev cX12_done : ByteArray := prog_14_method_110_code
def yX12_done : MethodName := ⟨RX12, "done", "(I)I"⟩
abbrev cX12_all : ByteArray := prog_14_method_111_code
def yX12_all : MethodName := ⟨RX12, "all", "()I"⟩
abbrev cX12_overWith : ByteArray := prog_14_method_112_code
def yX12_overWith : MethodName := ⟨RX12, "overWith", "(II)I"⟩
abbrev cX12_help : ByteArray := prog_14_method_113_code
def yX12_help : MethodName := ⟨RX12, "help", "()I"⟩
abbrev cX12_crux : ByteArray := prog_14_method_114_code
def yX12_crux : MethodName := ⟨RX12, "crux", "()I"⟩
abbrev cX12_sick : ByteArray := prog_14_method_115_code
def yX12_sick : MethodName := ⟨RX12, "sick", "(I)I"⟩
abbrev cX12_beforeOf : ByteArray := prog_14_method_116_code
def yX12_beforeOf : MethodName := ⟨RX12, "beforeOf", "(I)I"⟩
abbrev cX12_ringOnes : ByteArray := prog_14_method_117_code
def yX12_ringOnes : MethodName := ⟨RX12, "ringOnes", "()I"⟩
abbrev cX12_ring : ByteArray := prog_14_method_118_code
def yX12_ring : MethodName := ⟨RX12, "ring", "()I"⟩
abbrev cX12_before : ByteArray := prog_14_method_119_code
def yX12_before : MethodName := ⟨RX12, "before", "(I)I"⟩
abbrev cX12_after : ByteArray := prog_14_method_120_code
def yX12_after : MethodName := ⟨RX12, "after", "(I)I"⟩
abbrev cX12_depth : ByteArray := prog_14_method_121_code
def yX12_depth : MethodName := ⟨RX12, "depth", "(I)I"⟩
abbrev cX12_chainOf : ByteArray := prog_14_method_122_code
def yX12_chainOf : MethodName := ⟨RX12, "chainOf", "(I)I"⟩
abbrev cX12_soonOf : ByteArray := prog_14_method_123_code
def yX12_soonOf : MethodName := ⟨RX12, "soonOf", "(I)I"⟩
abbrev cX12_soon : ByteArray := prog_14_method_124_code
def yX12_soon : MethodName := ⟨RX12, "soon", "(I)I"⟩
abbrev cX12_longest : ByteArray := prog_14_method_125_code
def yX12_longest : MethodName := ⟨RX12, "longest", "()I"⟩
abbrev cX12_olderOnes : ByteArray := prog_14_method_126_code
def yX12_olderOnes : MethodName := ⟨RX12, "olderOnes", "(I)I"⟩
abbrev cX12_young : ByteArray := prog_14_method_127_code
def yX12_young : MethodName := ⟨RX12, "young", "(I)I"⟩
abbrev cX12_older : ByteArray := prog_14_method_128_code
def yX12_older : MethodName := ⟨RX12, "older", "(I)I"⟩
abbrev cX12_leanWithin : ByteArray := prog_14_method_129_code
def yX12_leanWithin : MethodName := ⟨RX12, "leanWithin", "(I)Z"⟩
abbrev cX12_toDo : ByteArray := prog_14_method_130_code
def yX12_toDo : MethodName := ⟨RX12, "toDo", "(I)I"⟩
abbrev cX12_does : ByteArray := prog_14_method_131_code
def yX12_does : MethodName := ⟨RX12, "does", "(IZ)I"⟩
abbrev cX12_isTold : ByteArray := prog_14_method_132_code
def yX12_isTold : MethodName := ⟨RX12, "isTold", "()Z"⟩
abbrev cX12_allThatFit : ByteArray := prog_14_method_133_code
def yX12_allThatFit : MethodName := ⟨RX12, "allThatFit", "()I"⟩
abbrev cX12_whose : ByteArray := prog_14_method_134_code
def yX12_whose : MethodName := ⟨RX12, "whose", "()I"⟩
abbrev cX12_ask : ByteArray := prog_14_method_135_code
def yX12_ask : MethodName := ⟨RX12, "ask", "()I"⟩
abbrev cX12_isGap : ByteArray := prog_14_method_136_code
def yX12_isGap : MethodName := ⟨RX12, "isGap", "(I)Z"⟩
abbrev cX12_gap : ByteArray := prog_14_method_137_code
def yX12_gap : MethodName := ⟨RX12, "gap", "()I"⟩
abbrev cX12_lost : ByteArray := prog_14_method_138_code
def yX12_lost : MethodName := ⟨RX12, "lost", "()I"⟩
abbrev cX12_missed : ByteArray := prog_14_method_139_code
def yX12_missed : MethodName := ⟨RX12, "missed", "()I"⟩
abbrev cX12_serves : ByteArray := prog_14_method_140_code
def yX12_serves : MethodName := ⟨RX12, "serves", "(IIII)Z"⟩
abbrev cX12_swap : ByteArray := prog_14_method_141_code
def yX12_swap : MethodName := ⟨RX12, "swap", "(II)I"⟩
abbrev cX12_hasBy : ByteArray := prog_14_method_142_code
def yX12_hasBy : MethodName := ⟨RX12, "hasBy", "(III)I"⟩
abbrev cX12_rests : ByteArray := prog_14_method_143_code
def yX12_rests : MethodName := ⟨RX12, "rests", "(III)I"⟩
abbrev cX12_sponsor : ByteArray := prog_14_method_144_code
def yX12_sponsor : MethodName := ⟨RX12, "sponsor", "()I"⟩
abbrev cX12_idle : ByteArray := prog_14_method_145_code
def yX12_idle : MethodName := ⟨RX12, "idle", "()I"⟩
abbrev cX12_worst : ByteArray := prog_14_method_146_code
def yX12_worst : MethodName := ⟨RX12, "worst", "()I"⟩
abbrev cX12_alike : ByteArray := prog_14_method_147_code
def yX12_alike : MethodName := ⟨RX12, "alike", "()I"⟩
abbrev cX12_oddsOf : ByteArray := prog_14_method_148_code
def yX12_oddsOf : MethodName := ⟨RX12, "oddsOf", "(III)I"⟩
abbrev cX12_odds : ByteArray := prog_14_method_149_code
def yX12_odds : MethodName := ⟨RX12, "odds", "(II)I"⟩
abbrev cX12_spare : ByteArray := prog_14_method_150_code
def yX12_spare : MethodName := ⟨RX12, "spare", "(II)I"⟩
abbrev cX12_trial : ByteArray := prog_14_method_151_code
def yX12_trial : MethodName := ⟨RX12, "trial", "(IZ)I"⟩
abbrev cX12_span : ByteArray := prog_14_method_152_code
def yX12_span : MethodName := ⟨RX12, "span", "(IZ)I"⟩
abbrev cX12_ofLog : ByteArray := prog_14_method_153_code
def yX12_ofLog : MethodName := ⟨RX12, "ofLog", "(II)I"⟩
abbrev cX12_led : ByteArray := prog_14_method_154_code
def yX12_led : MethodName := ⟨RX12, "led", "(IZ)I"⟩
abbrev cX12_log : ByteArray := prog_14_method_155_code
def yX12_log : MethodName := ⟨RX12, "log", "(II)I"⟩
abbrev cX12_seed : ByteArray := prog_14_method_156_code
def yX12_seed : MethodName := ⟨RX12, "seed", "(I)I"⟩
abbrev cX12_readyOnes : ByteArray := prog_14_method_157_code
def yX12_readyOnes : MethodName := ⟨RX12, "readyOnes", "()I"⟩
abbrev cX12_count : ByteArray := prog_14_method_158_code
def yX12_count : MethodName := ⟨RX12, "count", "(I)I"⟩
def RJx145de : String := "java/io/Serializable"
def TJx145de : u_T := fun k => match k with
  | _ => ("", "", "", false)
def tyJx145de : Nat → FieldType := fun k => match k with
  | _ => .int
theorem nmJx145de : ∀ a, a < 0 → ∀ b, b < 0 → a ≠ b → (TJx145de a).2.1 ≠ (TJx145de b).2.1 := by decide +kernel
theorem tyJx145de_ok : ∀ k, k < 0 → parseFieldDescriptor (TJx145de k).2.2.1 = some (tyJx145de k) := by decide +kernel
def RJx9f9b0 : String := "java/lang/CharSequence"
def TJx9f9b0 : u_T := fun k => match k with
  | _ => ("", "", "", false)
def tyJx9f9b0 : Nat → FieldType := fun k => match k with
  | _ => .int
theorem nmJx9f9b0 : ∀ a, a < 0 → ∀ b, b < 0 → a ≠ b → (TJx9f9b0 a).2.1 ≠ (TJx9f9b0 b).2.1 := by decide +kernel
theorem tyJx9f9b0_ok : ∀ k, k < 0 → parseFieldDescriptor (TJx9f9b0 k).2.2.1 = some (tyJx9f9b0 k) := by decide +kernel
def RJxb160c : String := "java/lang/Comparable"
def TJxb160c : u_T := fun k => match k with
  | _ => ("", "", "", false)
def tyJxb160c : Nat → FieldType := fun k => match k with
  | _ => .int
theorem nmJxb160c : ∀ a, a < 0 → ∀ b, b < 0 → a ≠ b → (TJxb160c a).2.1 ≠ (TJxb160c b).2.1 := by decide +kernel
theorem tyJxb160c_ok : ∀ k, k < 0 → parseFieldDescriptor (TJxb160c k).2.2.1 = some (tyJxb160c k) := by decide +kernel
def RJx29ce0 : String := "java/lang/Enum"
def TJx29ce0 : u_T := fun k => match k with
  | _ => ("", "", "", false)
def tyJx29ce0 : Nat → FieldType := fun k => match k with
  | _ => .int
theorem nmJx29ce0 : ∀ a, a < 0 → ∀ b, b < 0 → a ≠ b → (TJx29ce0 a).2.1 ≠ (TJx29ce0 b).2.1 := by decide +kernel
theorem tyJx29ce0_ok : ∀ k, k < 0 → parseFieldDescriptor (TJx29ce0 k).2.2.1 = some (tyJx29ce0 k) := by decide +kernel
def RJ6 : String := "java/lang/Integer"
def TJ6 : u_T := fun k => match k with
  | _ => ("", "", "", false)
def tyJ6 : Nat → FieldType := fun k => match k with
  | _ => .int
theorem nmJ6 : ∀ a, a < 0 → ∀ b, b < 0 → a ≠ b → (TJ6 a).2.1 ≠ (TJ6 b).2.1 := by decide +kernel
theorem tyJ6_ok : ∀ k, k < 0 → parseFieldDescriptor (TJ6 k).2.2.1 = some (tyJ6 k) := by decide +kernel
abbrev cJ6_bitCount_0f7a4 : ByteArray := prog_23_method_49_code
def yJ6_bitCount_0f7a4 : MethodName := ⟨RJ6, "bitCount", "(I)I"⟩
def RJ9 : String := "java/lang/Math"
def TJ9 : u_T := fun k => match k with
  | _ => ("", "", "", false)
def tyJ9 : Nat → FieldType := fun k => match k with
  | _ => .int
theorem nmJ9 : ∀ a, a < 0 → ∀ b, b < 0 → a ≠ b → (TJ9 a).2.1 ≠ (TJ9 b).2.1 := by decide +kernel
theorem tyJ9_ok : ∀ k, k < 0 → parseFieldDescriptor (TJ9 k).2.2.1 = some (tyJ9 k) := by decide +kernel
abbrev cJ9_abs_0f7a4 : ByteArray := prog_24_method_59_code
def yJ9_abs_0f7a4 : MethodName := ⟨RJ9, "abs", "(I)I"⟩
abbrev cJ9_max_7cf53 : ByteArray := prog_24_method_65_code
def yJ9_max_7cf53 : MethodName := ⟨RJ9, "max", "(II)I"⟩
abbrev cJ9_min_7cf53 : ByteArray := prog_24_method_69_code
def yJ9_min_7cf53 : MethodName := ⟨RJ9, "min", "(II)I"⟩
def RJ0 : String := "java/lang/String"
def TJ0 : u_T := fun k => match k with
  | _ => ("", "", "", false)
def tyJ0 : Nat → FieldType := fun k => match k with
  | _ => .int
theorem nmJ0 : ∀ a, a < 0 → ∀ b, b < 0 → a ≠ b → (TJ0 a).2.1 ≠ (TJ0 b).2.1 := by decide +kernel
theorem tyJ0_ok : ∀ k, k < 0 → parseFieldDescriptor (TJ0 k).2.2.1 = some (tyJ0 k) := by decide +kernel
abbrev cJ0_length_8abf5 : ByteArray := prog_26_method_54_code
def yJ0_length_8abf5 : MethodName := ⟨RJ0, "length", "()I"⟩
abbrev cJ0_charAt_5068e : ByteArray := prog_26_method_56_code
def yJ0_charAt_5068e : MethodName := ⟨RJ0, "charAt", "(I)C"⟩
abbrev cJ0_coder_7d493 : ByteArray := prog_26_method_152_code
def yJ0_coder_7d493 : MethodName := ⟨RJ0, "coder", "()B"⟩
abbrev cJ0_isLatin1_aae02 : ByteArray := prog_26_method_154_code
def yJ0_isLatin1_aae02 : MethodName := ⟨RJ0, "isLatin1", "()Z"⟩
abbrev cJ0_checkIndex_df160 : ByteArray := prog_26_method_155_code
def yJ0_checkIndex_df160 : MethodName := ⟨RJ0, "checkIndex", "(II)V"⟩
def RJ1 : String := "java/lang/StringLatin1"
def TJ1 : u_T := fun k => match k with
  | _ => ("", "", "", false)
def tyJ1 : Nat → FieldType := fun k => match k with
  | _ => .int
theorem nmJ1 : ∀ a, a < 0 → ∀ b, b < 0 → a ≠ b → (TJ1 a).2.1 ≠ (TJ1 b).2.1 := by decide +kernel
theorem tyJ1_ok : ∀ k, k < 0 → parseFieldDescriptor (TJ1 k).2.2.1 = some (tyJ1 k) := by decide +kernel
abbrev cJ1_charAt_3b067 : ByteArray := prog_27_method_2_code
def yJ1_charAt_3b067 : MethodName := ⟨RJ1, "charAt", "([BI)C"⟩
def RJ2 : String := "java/lang/StringUTF16"
def TJ2 : u_T := fun k => match k with
  | _ => ("", "", "", false)
def tyJ2 : Nat → FieldType := fun k => match k with
  | _ => .int
theorem nmJ2 : ∀ a, a < 0 → ∀ b, b < 0 → a ≠ b → (TJ2 a).2.1 ≠ (TJ2 b).2.1 := by decide +kernel
theorem tyJ2_ok : ∀ k, k < 0 → parseFieldDescriptor (TJ2 k).2.2.1 = some (tyJ2 k) := by decide +kernel
abbrev cJ2_getChar_3b067 : ByteArray := prog_28_method_5_code
def yJ2_getChar_3b067 : MethodName := ⟨RJ2, "getChar", "([BI)C"⟩
abbrev cJ2_length_9d52b : ByteArray := prog_28_method_6_code
def yJ2_length_9d52b : MethodName := ⟨RJ2, "length", "([B)I"⟩
abbrev cJ2_charAt_3b067 : ByteArray := prog_28_method_83_code
def yJ2_charAt_3b067 : MethodName := ⟨RJ2, "charAt", "([BI)C"⟩
abbrev cJ2_checkIndex_2214a : ByteArray := prog_28_method_91_code
def yJ2_checkIndex_2214a : MethodName := ⟨RJ2, "checkIndex", "(I[B)V"⟩
def RJ10 : String := "java/lang/System"
def TJ10 : u_T := fun k => match k with
  | _ => ("", "", "", false)
def tyJ10 : Nat → FieldType := fun k => match k with
  | _ => .int
theorem nmJ10 : ∀ a, a < 0 → ∀ b, b < 0 → a ≠ b → (TJ10 a).2.1 ≠ (TJ10 b).2.1 := by decide +kernel
theorem tyJ10_ok : ∀ k, k < 0 → parseFieldDescriptor (TJ10 k).2.2.1 = some (tyJ10 k) := by decide +kernel
def RJxfd54e : String := "java/lang/constant/Constable"
def TJxfd54e : u_T := fun k => match k with
  | _ => ("", "", "", false)
def tyJxfd54e : Nat → FieldType := fun k => match k with
  | _ => .int
theorem nmJxfd54e : ∀ a, a < 0 → ∀ b, b < 0 → a ≠ b → (TJxfd54e a).2.1 ≠ (TJxfd54e b).2.1 := by decide +kernel
theorem tyJxfd54e_ok : ∀ k, k < 0 → parseFieldDescriptor (TJxfd54e k).2.2.1 = some (tyJxfd54e k) := by decide +kernel
def RJx3cf43 : String := "java/lang/constant/ConstantDesc"
def TJx3cf43 : u_T := fun k => match k with
  | _ => ("", "", "", false)
def tyJx3cf43 : Nat → FieldType := fun k => match k with
  | _ => .int
theorem nmJx3cf43 : ∀ a, a < 0 → ∀ b, b < 0 → a ≠ b → (TJx3cf43 a).2.1 ≠ (TJx3cf43 b).2.1 := by decide +kernel
theorem tyJx3cf43_ok : ∀ k, k < 0 → parseFieldDescriptor (TJx3cf43 k).2.2.1 = some (tyJx3cf43 k) := by decide +kernel
def RJ3 : String := "jdk/internal/util/Preconditions"
def TJ3 : u_T := fun k => match k with
  | _ => ("", "", "", false)
def tyJ3 : Nat → FieldType := fun k => match k with
  | _ => .int
theorem nmJ3 : ∀ a, a < 0 → ∀ b, b < 0 → a ≠ b → (TJ3 a).2.1 ≠ (TJ3 b).2.1 := by decide +kernel
theorem tyJ3_ok : ∀ k, k < 0 → parseFieldDescriptor (TJ3 k).2.2.1 = some (tyJ3 k) := by decide +kernel
abbrev cJ3_checkIndex_8e157 : ByteArray := prog_35_method_11_code
def yJ3_checkIndex_8e157 : MethodName := ⟨RJ3, "checkIndex", "(IILjava/util/function/BiFunction;)I"⟩
def RL : String := "PutOffParadeLaw"
abbrev cL_street : ByteArray := method_3_code
def yL_street : MethodName := ⟨RL, "street", "(LPutOffParade;[J)I"⟩
abbrev cL_law : ByteArray := method_4_code
def yL_law : MethodName := ⟨RL, "law", "(LPutOffParade;[J)I"⟩
abbrev cL_person : ByteArray := method_5_code
def yL_person : MethodName := ⟨RL, "person", "(LPutOffParade;II[J)I"⟩
abbrev cL_duty : ByteArray := method_6_code
def yL_duty : MethodName := ⟨RL, "duty", "(LPutOffParade;II[J)I"⟩
abbrev cL_call : ByteArray := method_7_code
def yL_call : MethodName := ⟨RL, "call", "(LPutOffParade;I[J)I"⟩
abbrev cL_put : ByteArray := method_8_code
def yL_put : MethodName := ⟨RL, "put", "(LPutOffParade;I[J)I"⟩
abbrev cL_forget : ByteArray := method_9_code
def yL_forget : MethodName := ⟨RL, "forget", "(LPutOffParade;I[J)I"⟩
abbrev cL_recall : ByteArray := method_10_code
def yL_recall : MethodName := ⟨RL, "recall", "(LPutOffParade;I[J)I"⟩
abbrev cL_hand : ByteArray := method_11_code
def yL_hand : MethodName := ⟨RL, "hand", "(LPutOffParade;II[J)I"⟩
abbrev cL_lean : ByteArray := method_12_code
def yL_lean : MethodName := ⟨RL, "lean", "(LPutOffParade;II[J)I"⟩
abbrev cL_free : ByteArray := method_13_code
def yL_free : MethodName := ⟨RL, "free", "(LPutOffParade;II[J)I"⟩
abbrev cL_days : ByteArray := method_14_code
def yL_days : MethodName := ⟨RL, "days", "(LPutOffParade;I[J)I"⟩
abbrev cL_greets : ByteArray := method_15_code
def yL_greets : MethodName := ⟨RL, "greets", "(LPutOffParade;II[J)I"⟩
abbrev cL_where : ByteArray := method_16_code
def yL_where : MethodName := ⟨RL, "where", "(LPutOffParade;II[J)I"⟩
abbrev cL_crowd : ByteArray := method_17_code
def yL_crowd : MethodName := ⟨RL, "crowd", "(LPutOffParade;III[J)I"⟩
abbrev cL_does : ByteArray := method_18_code
def yL_does : MethodName := ⟨RL, "does", "(LPutOffParade;IZ[J)I"⟩
abbrev cL_soon : ByteArray := method_19_code
def yL_soon : MethodName := ⟨RL, "soon", "(LPutOffParade;I[J)I"⟩
abbrev cL_before : ByteArray := method_20_code
def yL_before : MethodName := ⟨RL, "before", "(LPutOffParade;I[J)I"⟩
abbrev cL_after : ByteArray := method_21_code
def yL_after : MethodName := ⟨RL, "after", "(LPutOffParade;I[J)I"⟩
abbrev cL_depth : ByteArray := method_22_code
def yL_depth : MethodName := ⟨RL, "depth", "(LPutOffParade;I[J)I"⟩
abbrev cL_young : ByteArray := method_23_code
def yL_young : MethodName := ⟨RL, "young", "(LPutOffParade;I[J)I"⟩
abbrev cL_older : ByteArray := method_24_code
def yL_older : MethodName := ⟨RL, "older", "(LPutOffParade;I[J)I"⟩
abbrev cL_whose : ByteArray := method_25_code
def yL_whose : MethodName := ⟨RL, "whose", "(LPutOffParade;[J)I"⟩
abbrev cL_ask : ByteArray := method_26_code
def yL_ask : MethodName := ⟨RL, "ask", "(LPutOffParade;[J)I"⟩
abbrev cL_swap : ByteArray := method_27_code
def yL_swap : MethodName := ⟨RL, "swap", "(LPutOffParade;II[J)I"⟩
abbrev cL_rests : ByteArray := method_28_code
def yL_rests : MethodName := ⟨RL, "rests", "(LPutOffParade;III[J)I"⟩
abbrev cL_odds : ByteArray := method_29_code
def yL_odds : MethodName := ⟨RL, "odds", "(LPutOffParade;II[J)I"⟩
abbrev cL_spare : ByteArray := method_30_code
def yL_spare : MethodName := ⟨RL, "spare", "(LPutOffParade;II[J)I"⟩
abbrev cL_done : ByteArray := method_31_code
def yL_done : MethodName := ⟨RL, "done", "(LPutOffParade;I[J)I"⟩
abbrev cL_sick : ByteArray := method_32_code
def yL_sick : MethodName := ⟨RL, "sick", "(LPutOffParade;I[J)I"⟩
abbrev cL_ahead : ByteArray := method_33_code
def yL_ahead : MethodName := ⟨RL, "ahead", "(LPutOffParade;III[J)I"⟩
abbrev cL_trial : ByteArray := method_34_code
def yL_trial : MethodName := ⟨RL, "trial", "(LPutOffParade;IZ[J)I"⟩
abbrev cL_span : ByteArray := method_35_code
def yL_span : MethodName := ⟨RL, "span", "(LPutOffParade;IZ[J)I"⟩
abbrev cL_led : ByteArray := method_36_code
def yL_led : MethodName := ⟨RL, "led", "(LPutOffParade;IZ[J)I"⟩
abbrev cL_log : ByteArray := method_37_code
def yL_log : MethodName := ⟨RL, "log", "(LPutOffParade;II[J)I"⟩
abbrev cL_law_ : ByteArray := code
def yL_law_ : MethodName := ⟨RL, "law", "([I)Z"⟩
end
section
/-! ===== THE ABSTRACT MACHINE: places for addresses, a heap of numbers, and the judgement AW over the kit's W ===== -/
/-- class ids and slots, array classes by tag, the first address that is ours, addresses of the constants -/
abbrev aG : Type := va_G × (Nat → ClassId) × Nat × (Nat → Nat)
/-- kinds of places (0 none, 1 an object of class n, t > 1 an array of n), ints, longs, references (0 null, q + 1 place q), the next place (0: not known) -/
abbrev aH : Type := (Nat → Nat × Nat) × (Nat → Nat → Int32) × (Nat → Nat → Int64) × (Nat → Nat → Nat) × Nat
abbrev aE : Type := Nat × Instr × Nat × Nat × Int32
/-- a method: its name, bytes, locals, answer, handlers, code -/
abbrev aM : Type := MethodName × ByteArray × Nat × Option FieldType × List (Nat × Nat × Nat × Nat) × List (List aE)
def lookIn (pc : Nat) : List aE → Option (Instr × Nat × Nat × Int32)
  | [] => none
  | e :: r => match Nat.beq e.1 pc with | true => some e.2 | false => lookIn pc r
def nth : List (List aE) → Nat → List aE
  | [], _ => []
  | a :: _, 0 => a
  | _ :: r, n + 1 => nth r n
def look (C : aM) (pc : Nat) : Option (Instr × Nat × Nat × Int32) := lookIn pc (nth C.2.2.2.2.2 (pc / 64))
def ad (G : aG) (p : Nat) : Nat := match Nat.ble 200 p with | true => G.2.2.1 + (p - 200) | false => G.2.2.2 p
def mv (G : aG) : Value → Value
  | .ref p => .ref (ad G p)
  | v => v
def rv : Nat → Value
  | 0 => .null
  | p + 1 => .ref p
def aA (G : aG) : Nat → Prop := fun q => G.2.2.1 ≤ q
def up2 {α : Type} (f : Nat → Nat → α) (p k : Nat) (v : α) : Nat → Nat → α := fun q => if q = p then (fun j => if j = k then v else f p j) else f q
theorem up2_row {α : Type} {f : Nat → Nat → α} {p k q : Nat} {v : α} (h : q ≠ p) : up2 f p k v q = f q := by simp [up2, h]
theorem up2_at {α : Type} {f : Nat → Nat → α} {p k : Nat} {v : α} : up2 f p k v p k = v := by simp [up2]
theorem up2_ne {α : Type} {f : Nat → Nat → α} {p k q j : Nat} {v : α} (h : q ≠ p ∨ j ≠ k) : up2 f p k v q j = f q j := by
  by_cases hq : q = p
  · subst hq
    rcases h with h | h
    · exact absurd rfl h
    · simp [up2, h]
  · simp [up2, hq]
theorem mv_cat (G : aG) (v : Value) : (mv G v).category = v.category := by cases v <;> rfl
theorem mv_rv0 (G : aG) : mv G (rv 0) = .null := rfl
def rfo (G : aG) : Nat → Option Nat
  | 0 => none
  | p + 1 => some (ad G p)
theorem mv_rf (G : aG) (r : Nat) : mv G (rv r) = va_rf (rfo G r) := by cases r <;> rfl
theorem ad_dyn {G : aG} {p : Nat} (h : 200 ≤ p) : ad G p = G.2.2.1 + (p - 200) := by
  have : Nat.ble 200 p = true := Nat.ble_eq_true_of_le h
  simp [ad, this]
theorem ad_stat {G : aG} {p : Nat} (h : p < 200) : ad G p = G.2.2.2 p := by
  have : Nat.ble 200 p = false := by
    cases hb : Nat.ble 200 p with
    | false => rfl
    | true => exact absurd (Nat.le_of_ble_eq_true hb) (by omega)
  simp [ad, this]
/-- the classes whose objects are places, with their fields' types -/
abbrev aC : List (vw_C × (Nat → FieldType)) := [((RX0, TX0, 2), tyX0), ((RX1, TX1, 3), tyX1), ((RX2, TX2, 9), tyX2), ((RX3, TX3, 6), tyX3), ((RX3, TX3, 6), tyX3), ((RX5, TX5, 18), tyX5), ((RX6, TX6, 3), tyX6), ((RX7, TX7, 2), tyX7), ((RX7, TX7, 2), tyX7), ((RX9, TX9, 10), tyX9), ((RX9, TX9, 10), tyX9), ((RX11, TX11, 14), tyX11), ((RX12, TX12, 20), tyX12)]
def fv (G : aG) (I : Nat → Nat → Int32) (R : Nat → Nat → Nat) (p : Nat) (ty : FieldType) (k : Nat) : Value := match ty with
  | .int => .int (I p k)
  | .boolean => .int (I p k)
  | _ => mv G (rv (R p k))
/-- array tags: 2 int, 3 byte, 4 long, 5 of streets -/
def ev (G : aG) (I : Nat → Nat → Int32) (L : Nat → Nat → Int64) (R : Nat → Nat → Nat) (t p j : Nat) : Value := match t with
  | 2 => .int (I p j)
  | 3 => .int (I p j)
  | 4 => .long (L p j)
  | _ => mv G (rv (R p j))
def obA (G : aG) (I : Nat → Nat → Int32) (R : Nat → Nat → Nat) (H : Heap) (p ci : Nat) : Prop :=
  ∃ r, aC[ci]? = some r ∧ ∃ cell : Cell, H[ad G p]? = some cell ∧ cell.cls = G.1.1 ci ∧ cell.vm = .none ∧ ∀ k, k < r.1.2.2 → cell.slots[G.1.2 ci k]? = some (fv G I R p (r.2 k) k)
def arA (G : aG) (I : Nat → Nat → Int32) (L : Nat → Nat → Int64) (R : Nat → Nat → Nat) (H : Heap) (p t n : Nat) : Prop := H[ad G p]? = some (arrV (G.2.1 t) n (fun j => ev G I L R t p j))
def cellA (G : aG) (h : aH) (H : Heap) (p : Nat) : Prop := match h.1 p with
  | (0, _) => True
  | (1, ci) => obA G h.2.1 h.2.2.2.1 H p ci
  | (t + 2, n) => arA G h.2.1 h.2.2.1 h.2.2.2.1 H p (t + 2) n
def Rep (G : aG) (h : aH) (H : Heap) : Prop :=
  (∀ p, cellA G h H p) ∧ (∀ p, (h.1 p).1 ≠ 0 → 200 ≤ p) ∧ (200 ≤ h.2.2.2.2 → H.size = G.2.2.1 + (h.2.2.2.2 - 200)) ∧ G.2.2.1 ≤ H.size
/-- what is said of the constants, by lists: static fields, objects, their fields, arrays, texts -/
abbrev aS : Type := List (String × String × String × Value) × List (Nat × String) × List (Nat × String × String × String × Value) × List (Nat × FieldType × Nat × (Nat → Value)) × List (String × Nat × String × Nat) × List (String × String)
def isNest : Cond → Bool
  | .methodLinkNest _ _ _ _ => true
  | _ => false
/-- the tables' words, of any arguments -/
def TW (U : State) : Prop := ∀ w ∈ lw_tbl, (goodWord w || isNest w) = true → ∀ a : Array Value, w.before a U = true
theorem TW.warm {s U : State} (hW : s.WarmedH U.vm) (h : TW s) : TW U := by
  intro w hw hg a
  cases hg1 : goodWord w with
  | true => exact word_at hW (good_of_word hg1) (h w hw hg #[])
  | false =>
    rw [hg1] at hg
    cases w with
    | methodLinkNest x i y z => exact va_Nw.use rfl (va_Nw.warmM hW (va_Nw.of rfl (h _ hw (by rw [hg1]; exact hg) #[])))
    | _ => exact absurd hg (by simp [isNest])
def tagTy : Nat → FieldType
  | 2 => .int
  | 3 => .byte
  | 4 => .long
  | _ => .object RX5
def SW (S : aS) (G : aG) (U : State) : Prop :=
  (∀ (ci : Nat) (r : vw_C × (Nat → FieldType)), aC[ci]? = some r → u_Kn U r.1.1 r.1.2.1 r.1.2.2 (G.1.1 ci) (G.1.2 ci)) ∧
  (∀ t, t < 4 → ArrOfT U (G.2.1 (t + 2)) (tagTy (t + 2)) ∧ va_RA U (G.2.1 (t + 2)) (tagTy (t + 2))) ∧
  TW U ∧
  ((vx_Zq Bundle.tN "UNASSIGNED_STACK" Bundle.steD (aA G) U U.heap ∧ vx_Zq Bundle.tN "SUPPRESSED_SENTINEL" Bundle.listD (aA G) U U.heap) ∧
  (∀ r ∈ S.1, va_Z r.1 r.2.1 r.2.2.1 (mv G r.2.2.2) (aA G) U U.heap) ∧
  (∀ r ∈ S.2.1, va_O r.2 (ad G r.1) (aA G) U U.heap) ∧
  (∀ r ∈ S.2.2.1, va_OF r.2.1 r.2.2.1 r.2.2.2.1 (mv G r.2.2.2.2) (ad G r.1) (aA G) U U.heap) ∧
  (∀ r ∈ S.2.2.2.1, va_T r.2.1 (ad G r.1) r.2.2.1 (fun j => mv G (r.2.2.2 j)) (aA G) U U.heap)) ∧
  (∀ r ∈ S.2.2.2.2.1, vk_R r.1 r.2.1 r.2.2.1 (ad G r.2.2.2) U) ∧ (∀ r ∈ S.2.2.2.2.2, va_Nc r.1 r.2 U) ∧
  (∀ r r' : Nat × String, r ∈ S.2.1 → r' ∈ S.2.1 → ad G r.1 = ad G r'.1 → r.1 = r'.1)
theorem SW.go {S : aS} {G : aG} {s U : State} (hW : s.WarmedH U.vm) (hF : ∀ q : Nat, q < s.heap.size → ¬ aA G q → U.heap[q]? = s.heap[q]?) (h : SW S G s) : SW S G U := by
  obtain ⟨h1, h2, h3, ⟨⟨h4, h5⟩, h6, h7, h8, h9⟩, h10, h12, h11⟩ := h
  refine ⟨fun ci r hr => u_Kn_moved hW.alike (h1 ci r hr), fun t ht => ⟨arrOfT_moved hW.alike (h2 t ht).1, (h2 t ht).2.moved hW.alike⟩, h3.warm hW, ⟨⟨?_, ?_⟩, fun r hr => ?_, fun r hr => ?_, fun r hr => ?_, fun r hr => ?_⟩, fun r hr => (h10 r hr).warm hW, fun r hr => (h12 r hr).moved hW.alike, h11⟩
  · exact (h4.moved hW.alike).kept hF
  · exact (h5.moved hW.alike).kept hF
  · exact ((h6 r hr).moved hW.alike).kept hF
  · exact ((h7 r hr).moved hW.alike).kept hF
  · exact ((h8 r hr).moved hW.alike).kept hF
  · exact ((h9 r hr).moved hW.alike).kept hF
/-- an instruction's length (0: a switch) -/
def ilen : Instr → Nat
  | .bipush _ => 2
  | .sipush _ => 3
  | .iload _ => 2
  | .lload _ => 2
  | .aload _ => 2
  | .istore _ => 2
  | .lstore _ => 2
  | .astore _ => 2
  | .ldc _ => 2
  | .ldc_w _ => 3
  | .ldc2_w _ => 3
  | .iinc _ _ => 3
  | .goto _ => 3
  | .ifCond _ _ => 3
  | .if_icmp _ _ => 3
  | .if_acmp _ _ => 3
  | .ifnull _ => 3
  | .ifnonnull _ => 3
  | .getfield _ => 3
  | .putfield _ => 3
  | .getstatic _ => 3
  | .invokevirtual _ => 3
  | .invokespecial _ => 3
  | .invokestatic _ => 3
  | .new _ => 3
  | .newarray _ => 2
  | .anewarray _ => 3
  | .tableswitch _ _ _ _ => 0
  | .lookupswitch _ _ => 0
  | _ => 1
/-- a row of the code is what the bytes say -/
def okX (pc : Nat) (e : Instr × Nat × Nat × Int32) : Bool := match e.1 with
  | .goto off => decide ((pc : Int) + off = (e.2.2.1 : Int))
  | .ifCond _ off => decide ((pc : Int) + off = (e.2.2.1 : Int))
  | .if_icmp _ off => decide ((pc : Int) + off = (e.2.2.1 : Int))
  | .if_acmp _ off => decide ((pc : Int) + off = (e.2.2.1 : Int))
  | .ifnull off => decide ((pc : Int) + off = (e.2.2.1 : Int))
  | .ifnonnull off => decide ((pc : Int) + off = (e.2.2.1 : Int))
  | .iconst n => decide (Int32.ofInt n = e.2.2.2)
  | .bipush n => decide ((Int8.ofInt n).toInt32 = e.2.2.2)
  | .sipush n => decide ((Int16.ofInt n).toInt32 = e.2.2.2)
  | .iinc _ n => decide (Int32.ofInt n = e.2.2.2)
  | _ => true
def okE (C : aM) (e : aE) : Bool := decide (decode C.2.1 e.1 = .ok (e.2.1, e.2.2.1 - e.1)) && (Nat.ble e.1 e.2.2.1 && ((Nat.beq (ilen e.2.1) 0 || Nat.beq (e.1 + ilen e.2.1) e.2.2.1) && okX e.1 e.2))
def OkE (C : aM) (pc : Nat) (e : Instr × Nat × Nat × Int32) : Prop := (ilen e.1 = 0 ∨ (decode C.2.1 pc = .ok (e.1, ilen e.1) ∧ e.2.1 = pc + ilen e.1)) ∧ decode C.2.1 pc = .ok (e.1, e.2.1 - pc) ∧ okX pc e = true
def OkM (C : aM) : Prop := ∀ pc e, look C pc = some e → OkE C pc e
theorem okE_spec {C : aM} {e : aE} (h : okE C e = true) : OkE C e.1 e.2 := by
  simp only [okE, Bool.and_eq_true, decide_eq_true_eq] at h
  obtain ⟨h1, h2, h3, h4⟩ := h
  refine ⟨?_, h1, h4⟩
  rcases Bool.or_eq_true_iff.mp h3 with h3 | h3
  · exact Or.inl (Nat.eq_of_beq_eq_true h3)
  · have h5 := Nat.eq_of_beq_eq_true h3
    refine Or.inr ⟨?_, h5.symm⟩
    rw [h1, show e.2.2.1 - e.1 = ilen e.2.1 by omega]
theorem lookIn_mem {pc : Nat} {l : List aE} {e : Instr × Nat × Nat × Int32} (h : lookIn pc l = some e) : (pc, e) ∈ l := by
  induction l with
  | nil => simp [lookIn] at h
  | cons a r ih =>
    cases hb : Nat.beq a.1 pc with
    | true =>
      have := Nat.eq_of_beq_eq_true hb
      simp only [lookIn, hb] at h
      cases h
      subst this
      exact List.mem_cons_self
    | false =>
      simp only [lookIn, hb] at h
      exact List.mem_cons_of_mem _ (ih h)
theorem nth_mem {c : List (List aE)} {n : Nat} {e : aE} (h : e ∈ nth c n) : ∃ r ∈ c, e ∈ r := by
  induction c generalizing n with
  | nil => simp [nth] at h
  | cons a r ih =>
    cases n with
    | zero => exact ⟨a, List.mem_cons_self, h⟩
    | succ n =>
      obtain ⟨q, hq, he⟩ := ih (n := n) h
      exact ⟨q, List.mem_cons_of_mem _ hq, he⟩
theorem okM_of {C : aM} (h : C.2.2.2.2.2.all (fun r => r.all (okE C)) = true) : OkM C := by
  intro pc e he
  obtain ⟨r, hr, he'⟩ := nth_mem (lookIn_mem he)
  exact okE_spec (e := (pc, e)) (List.all_eq_true.mp (List.all_eq_true.mp h r hr) _ he')
/-- a method's only word -/
def mW (C : aM) : Cond := match C.2.2.2.2.1 with
  | [] => .code C.1 C.2.1 C.2.2.1 C.2.2.2.1
  | hh => .codeWith C.1 C.2.1 C.2.2.1 C.2.2.2.1 hh
def rmD (d mc ms : Nat) : Room := { frames := d, cells := mc, slots := ms, locals := 80 * d }
def QcM (G : aG) (Q : Option Value → aH → Prop) : Array Value → State → Outcome → State → Prop := fun _ st o t =>
  ∃ v h', o = .returned (Option.map (mv G) v) ∧ Q v h' ∧ Rep G h' t.heap ∧ va_F (aA G) st t
def XcM (G : aG) (X : String → aH → Prop) : String → State → State → Prop := fun E st t => ∃ h', X E h' ∧ Rep G h' t.heap ∧ va_F (aA G) st t
def PcM (S : aS) (G : aG) (args : List Value) (h : aH) : Array Value → State → Prop := fun v U => v = (args.map (mv G)).toArray ∧ Rep G h U.heap ∧ SW S G U
/-- A METHOD'S CONTRACT: called with these arguments in this heap, d frames deep at most, it makes k1 cells of k2 slots at most and ends so -/
def Sp (S : aS) (C : aM) (d k1 k2 : Nat) (args : List Value) (h : aH) (Q : Option Value → aH → Prop) (X : String → aH → Prop) : Prop :=
  ∀ (l : Launch) (G : aG), l.stackTraces = false → vx_Met l C.1 [mW C] (rmD d k1 k2) (PcM S G args h) (QcM G Q) (XcM G X) k1 k2 (aA G)
def lg : List (Option Value) → Nat → Option Value
  | [], _ => none
  | a :: _, 0 => a
  | _ :: r, n + 1 => lg r n
def HL (G : aG) (la : Array Slot) (nL : Nat) (ls : List (Option Value)) : Prop := la.size = nL ∧ lv_wf la ∧ ∀ (i : Nat) (v : Value), lg ls i = some v → la[i]? = some (Slot.val (mv G v))
def CX (C : aM) (l : Launch) (p : Program) (s : State) (m : MethodId) (meth : Method) (c : Code) : Prop :=
  p.tables.exec = Jvm.exec ∧ c.code = C.2.1 ∧ meth.sig.returnType = C.2.2.2.1 ∧ meth.locks = false ∧ c.maxLocals = C.2.2.1 ∧ s.vm.findClass C.1.cls = some m.cls ∧ meth.name = C.1.name ∧ l.stackTraces = false ∧ c.exceptionTable.toList = tableOf C.2.2.2.2.1 ∧ OkM C
/-- THE JUDGEMENT: from pc, with these locals, stack, heap, it ends with Q or throws with X -/
def AW (S : aS) (C : aM) (d : Nat) (Q : Option Value → aH → Prop) (X : String → aH → Prop) (k1 k2 pc : Nat) (ls : List (Option Value)) (st : List Value) (h : aH) : Prop :=
  ∀ (p : Program) (l : Launch) (e : Env) (s : State) (m : MethodId) (args : Array Value) (below : List Frame) (meth : Method) (c : Code) (H : Heap) (la : Array Slot) (locs : List Loc) (cells slots mc ms : Nat) (G : aG),
    CX C l p s m meth c → SW S G s → HL G la C.2.2.1 ls → Rep G h H → va_S (aA G) s.heap H locs → cells + k1 ≤ mc → slots + k2 ≤ ms →
    W p l e (rmD d mc ms) s m args below meth c H locs cells slots (vx_MQ below (QcM G Q) (XcM G X) args s mc ms (aA G)) (F0 m pc la (st.map (mv G)))
end
section
/-! ===== the rules of AW: stack and numbers ===== -/
section A4
variable {S : aS} {C : aM} {d : Nat} {Q : Option Value → aH → Prop} {X : String → aH → Prop} {k1 k2 pc np tgt : Nat} {w : Int32} {ls ls' : List (Option Value)} {st st' : List Value} {h : aH} {ins : Instr}
theorem okd {C : aM} {pc np tgt : Nat} {w : Int32} {ins : Instr} (hO : OkM C) (hC : look C pc = some (ins, np, tgt, w)) {n : Nat} (hn : ilen ins = n + 1) : decode C.2.1 pc = .ok (ins, n + 1) ∧ np = pc + (n + 1) ∧ okX pc (ins, np, tgt, w) = true := by
  obtain ⟨h1, -, h3⟩ := hO _ _ hC
  rcases h1 with h1 | ⟨h1, h2⟩
  · exact absurd h1 (by simp only; omega)
  · simp only [hn] at h1 h2
    exact ⟨h1, h2, h3⟩
/-- what an instruction does to the stack alone -/
def sst (ins : Instr) (w : Int32) (st : List Value) : Option (List Value) := match ins, st with
  | .iconst _, st => some (.int w :: st)
  | .bipush _, st => some (.int w :: st)
  | .sipush _, st => some (.int w :: st)
  | .lconst 0, st => some (.long 0 :: st)
  | .lconst 1, st => some (.long 1 :: st)
  | .aconst_null, st => some (.null :: st)
  | .iadd, .int y :: .int x :: r => some (.int (x + y) :: r)
  | .isub, .int y :: .int x :: r => some (.int (x - y) :: r)
  | .imul, .int y :: .int x :: r => some (.int (x * y) :: r)
  | .iand, .int y :: .int x :: r => some (.int (x &&& y) :: r)
  | .ior, .int y :: .int x :: r => some (.int (x ||| y) :: r)
  | .ixor, .int y :: .int x :: r => some (.int (x ^^^ y) :: r)
  | .ineg, .int x :: r => some (.int (-x) :: r)
  | .ishl, .int y :: .int x :: r => some (.int (x <<< (y &&& 31)) :: r)
  | .ishr, .int y :: .int x :: r => some (.int (x >>> (y &&& 31)) :: r)
  | .iushr, .int y :: .int x :: r => some (.int (x.toUInt32 >>> (y.toUInt32 &&& Int32.toUInt32 31)).toInt32 :: r)
  | .ladd, .long y :: .long x :: r => some (.long (x + y) :: r)
  | .lsub, .long y :: .long x :: r => some (.long (x - y) :: r)
  | .lmul, .long y :: .long x :: r => some (.long (x * y) :: r)
  | .lcmp, .long y :: .long x :: r => some (.int (lg_cmp x y) :: r)
  | .i2l, .int x :: r => some (.long x.toInt64 :: r)
  | .l2i, .long x :: r => some (.int x.toInt32 :: r)
  | .i2b, .int x :: r => some (.int x.toInt8.toInt32 :: r)
  | .dup, .int x :: r => some (.int x :: .int x :: r)
  | .dup, .ref x :: r => some (.ref x :: .ref x :: r)
  | .dup, .null :: r => some (.null :: .null :: r)
  | .pop, .int _ :: r => some r
  | .pop, .ref _ :: r => some r
  | .pop, .null :: r => some r
  | .dup2, .int y :: .ref x :: r => some (.int y :: .ref x :: .int y :: .ref x :: r)
  | .dup2, .int y :: .int x :: r => some (.int y :: .int x :: .int y :: .int x :: r)
  | .dup2, .long x :: r => some (.long x :: .long x :: r)
  | _, _ => none
set_option maxHeartbeats 4000000 in
theorem a_s (hC : look C pc = some (ins, np, tgt, w)) (hs : sst ins w st = some st') (k : AW S C d Q X k1 k2 np ls st' h) : AW S C d Q X k1 k2 pc ls st h := by
  intro p l e s m args below meth c H la locs cells slots mc ms G CC hS hL hR hF h1 h2
  have K := k p l e s m args below meth c H la locs cells slots mc ms G CC hS hL hR hF h1 h2
  have hx := CC.1
  have hb := CC.2.1
  have hO := CC.2.2.2.2.2.2.2.2.2
  clear CC
  unfold sst at hs
  split at hs <;> first | (cases hs; done) | (cases hs; obtain ⟨hd, rfl, ho⟩ := okd hO hC rfl)

  · exact lv_iconst hx hb hd (of_decide_eq_true ho) K
  · exact lv_bipush hx hb hd (of_decide_eq_true ho) K
  · exact lv_sipush hx hb hd (of_decide_eq_true ho) K
  · exact lv_lconst (v := 0) hx hb hd rfl K
  · exact lv_lconst (v := 1) hx hb hd rfl K
  · exact lv_null hx hb hd K
  · exact lv_iadd hx hb hd K
  · exact lv_isub hx hb hd K
  · exact lv_imul hx hb hd K
  · exact lv_iand hx hb hd K
  · exact lv_ior hx hb hd K
  · exact lv_ixor hx hb hd K
  · exact lv_ineg hx hb hd K
  · exact lv_ishl hx hb hd K
  · exact lv_ishr hx hb hd K
  · exact lv_iushr hx hb hd rfl K
  · exact lv_ladd hx hb hd K
  · exact lv_lsub hx hb hd K
  · exact lv_lmul hx hb hd K
  · exact W.lcmp hx hb hd K
  · exact lv_i2l hx hb hd rfl K
  · exact lv_l2i hx hb hd rfl K
  · exact lv_i2b hx hb hd rfl K
  · exact lv_dup hx hb hd rfl K
  · exact lv_dup hx hb hd rfl K
  · exact lv_dup hx hb hd rfl K
  · exact lv_pop hx hb hd rfl K
  · exact lv_pop hx hb hd rfl K
  · exact lv_pop hx hb hd rfl K
  · exact lv_dup2_11 hx hb hd rfl rfl K
  · exact lv_dup2_11 hx hb hd rfl rfl K
  · exact lv_dup2_2 hx hb hd rfl K
theorem a_idiv {x y : Int32} {r : List Value} (hC : look C pc = some (.idiv, np, tgt, w)) (hy : ¬ y = 0) (k : AW S C d Q X k1 k2 np ls (.int (x / y) :: r) h) : AW S C d Q X k1 k2 pc ls (.int y :: .int x :: r) h := by
  intro p l e s m args below meth c H la locs cells slots mc ms G CC hS hL hR hF h1 h2
  have K := k p l e s m args below meth c H la locs cells slots mc ms G CC hS hL hR hF h1 h2
  obtain ⟨hd, rfl, -⟩ := okd CC.2.2.2.2.2.2.2.2.2 hC rfl
  exact lv_idiv CC.1 CC.2.1 hd hy K
theorem a_irem {x y : Int32} {r : List Value} (hC : look C pc = some (.irem, np, tgt, w)) (hy : ¬ y = 0) (k : AW S C d Q X k1 k2 np ls (.int (x - x / y * y) :: r) h) : AW S C d Q X k1 k2 pc ls (.int y :: .int x :: r) h := by
  intro p l e s m args below meth c H la locs cells slots mc ms G CC hS hL hR hF h1 h2
  have K := k p l e s m args below meth c H la locs cells slots mc ms G CC hS hL hR hF h1 h2
  obtain ⟨hd, rfl, -⟩ := okd CC.2.2.2.2.2.2.2.2.2 hC rfl
  exact lv_irem CC.1 CC.2.1 hd hy K
theorem a_ldiv {x y : Int64} {r : List Value} (hC : look C pc = some (.ldiv, np, tgt, w)) (hy : ¬ y = 0) (k : AW S C d Q X k1 k2 np ls (.long (x / y) :: r) h) : AW S C d Q X k1 k2 pc ls (.long y :: .long x :: r) h := by
  intro p l e s m args below meth c H la locs cells slots mc ms G CC hS hL hR hF h1 h2
  have K := k p l e s m args below meth c H la locs cells slots mc ms G CC hS hL hR hF h1 h2
  obtain ⟨hd, rfl, -⟩ := okd CC.2.2.2.2.2.2.2.2.2 hC rfl
  exact lv_ldiv CC.1 CC.2.1 hd hy K
theorem a_goto {off : Int} (hC : look C pc = some (.goto off, np, tgt, w)) (k : AW S C d Q X k1 k2 tgt ls st h) : AW S C d Q X k1 k2 pc ls st h := by
  intro p l e s m args below meth c H la locs cells slots mc ms G CC hS hL hR hF h1 h2
  have K := k p l e s m args below meth c H la locs cells slots mc ms G CC hS hL hR hF h1 h2
  obtain ⟨hd, -, ho⟩ := okd CC.2.2.2.2.2.2.2.2.2 hC rfl
  exact lv_goto CC.1 CC.2.1 hd (of_decide_eq_true ho) K
theorem a_if_eq {x : Int32} {off : Int} (hC : look C pc = some (.ifCond .eq off, np, tgt, w)) (kt : x = 0 → AW S C d Q X k1 k2 tgt ls st h) (kf : ¬ x = 0 → AW S C d Q X k1 k2 np ls st h) : AW S C d Q X k1 k2 pc ls (.int x :: st) h := by
  intro p l e s m args below meth c H la locs cells slots mc ms G CC hS hL hR hF h1 h2
  obtain ⟨hd, rfl, ho⟩ := okd CC.2.2.2.2.2.2.2.2.2 hC rfl
  exact lv_if_eq CC.1 CC.2.1 hd (of_decide_eq_true ho) (fun q => kt q p l e s m args below meth c H la locs cells slots mc ms G CC hS hL hR hF h1 h2) (fun q => kf q p l e s m args below meth c H la locs cells slots mc ms G CC hS hL hR hF h1 h2)
theorem a_if_ne {x : Int32} {off : Int} (hC : look C pc = some (.ifCond .ne off, np, tgt, w)) (kt : ¬ x = 0 → AW S C d Q X k1 k2 tgt ls st h) (kf : x = 0 → AW S C d Q X k1 k2 np ls st h) : AW S C d Q X k1 k2 pc ls (.int x :: st) h := by
  intro p l e s m args below meth c H la locs cells slots mc ms G CC hS hL hR hF h1 h2
  obtain ⟨hd, rfl, ho⟩ := okd CC.2.2.2.2.2.2.2.2.2 hC rfl
  exact lv_if_ne CC.1 CC.2.1 hd (of_decide_eq_true ho) (fun q => kt q p l e s m args below meth c H la locs cells slots mc ms G CC hS hL hR hF h1 h2) (fun q => kf q p l e s m args below meth c H la locs cells slots mc ms G CC hS hL hR hF h1 h2)
theorem a_if_lt {x : Int32} {off : Int} (hC : look C pc = some (.ifCond .lt off, np, tgt, w)) (kt : x < 0 → AW S C d Q X k1 k2 tgt ls st h) (kf : ¬ x < 0 → AW S C d Q X k1 k2 np ls st h) : AW S C d Q X k1 k2 pc ls (.int x :: st) h := by
  intro p l e s m args below meth c H la locs cells slots mc ms G CC hS hL hR hF h1 h2
  obtain ⟨hd, rfl, ho⟩ := okd CC.2.2.2.2.2.2.2.2.2 hC rfl
  exact lv_if_lt CC.1 CC.2.1 hd (of_decide_eq_true ho) (fun q => kt q p l e s m args below meth c H la locs cells slots mc ms G CC hS hL hR hF h1 h2) (fun q => kf q p l e s m args below meth c H la locs cells slots mc ms G CC hS hL hR hF h1 h2)
theorem a_if_ge {x : Int32} {off : Int} (hC : look C pc = some (.ifCond .ge off, np, tgt, w)) (kt : 0 ≤ x → AW S C d Q X k1 k2 tgt ls st h) (kf : ¬ 0 ≤ x → AW S C d Q X k1 k2 np ls st h) : AW S C d Q X k1 k2 pc ls (.int x :: st) h := by
  intro p l e s m args below meth c H la locs cells slots mc ms G CC hS hL hR hF h1 h2
  obtain ⟨hd, rfl, ho⟩ := okd CC.2.2.2.2.2.2.2.2.2 hC rfl
  exact lv_if_ge CC.1 CC.2.1 hd (of_decide_eq_true ho) (fun q => kt q p l e s m args below meth c H la locs cells slots mc ms G CC hS hL hR hF h1 h2) (fun q => kf q p l e s m args below meth c H la locs cells slots mc ms G CC hS hL hR hF h1 h2)
theorem a_if_gt {x : Int32} {off : Int} (hC : look C pc = some (.ifCond .gt off, np, tgt, w)) (kt : 0 < x → AW S C d Q X k1 k2 tgt ls st h) (kf : ¬ 0 < x → AW S C d Q X k1 k2 np ls st h) : AW S C d Q X k1 k2 pc ls (.int x :: st) h := by
  intro p l e s m args below meth c H la locs cells slots mc ms G CC hS hL hR hF h1 h2
  obtain ⟨hd, rfl, ho⟩ := okd CC.2.2.2.2.2.2.2.2.2 hC rfl
  exact lv_if_gt CC.1 CC.2.1 hd (of_decide_eq_true ho) (fun q => kt q p l e s m args below meth c H la locs cells slots mc ms G CC hS hL hR hF h1 h2) (fun q => kf q p l e s m args below meth c H la locs cells slots mc ms G CC hS hL hR hF h1 h2)
theorem a_if_le {x : Int32} {off : Int} (hC : look C pc = some (.ifCond .le off, np, tgt, w)) (kt : x ≤ 0 → AW S C d Q X k1 k2 tgt ls st h) (kf : ¬ x ≤ 0 → AW S C d Q X k1 k2 np ls st h) : AW S C d Q X k1 k2 pc ls (.int x :: st) h := by
  intro p l e s m args below meth c H la locs cells slots mc ms G CC hS hL hR hF h1 h2
  obtain ⟨hd, rfl, ho⟩ := okd CC.2.2.2.2.2.2.2.2.2 hC rfl
  exact lv_if_le CC.1 CC.2.1 hd (of_decide_eq_true ho) (fun q => kt q p l e s m args below meth c H la locs cells slots mc ms G CC hS hL hR hF h1 h2) (fun q => kf q p l e s m args below meth c H la locs cells slots mc ms G CC hS hL hR hF h1 h2)
theorem a_ic_eq {x y : Int32} {off : Int} (hC : look C pc = some (.if_icmp .eq off, np, tgt, w)) (kt : x = y → AW S C d Q X k1 k2 tgt ls st h) (kf : ¬ x = y → AW S C d Q X k1 k2 np ls st h) : AW S C d Q X k1 k2 pc ls (.int y :: .int x :: st) h := by
  intro p l e s m args below meth c H la locs cells slots mc ms G CC hS hL hR hF h1 h2
  obtain ⟨hd, rfl, ho⟩ := okd CC.2.2.2.2.2.2.2.2.2 hC rfl
  exact lv_icmp_eq CC.1 CC.2.1 hd (of_decide_eq_true ho) (fun q => kt q p l e s m args below meth c H la locs cells slots mc ms G CC hS hL hR hF h1 h2) (fun q => kf q p l e s m args below meth c H la locs cells slots mc ms G CC hS hL hR hF h1 h2)
theorem a_ic_ne {x y : Int32} {off : Int} (hC : look C pc = some (.if_icmp .ne off, np, tgt, w)) (kt : ¬ x = y → AW S C d Q X k1 k2 tgt ls st h) (kf : x = y → AW S C d Q X k1 k2 np ls st h) : AW S C d Q X k1 k2 pc ls (.int y :: .int x :: st) h := by
  intro p l e s m args below meth c H la locs cells slots mc ms G CC hS hL hR hF h1 h2
  obtain ⟨hd, rfl, ho⟩ := okd CC.2.2.2.2.2.2.2.2.2 hC rfl
  exact lv_icmp_ne CC.1 CC.2.1 hd (of_decide_eq_true ho) (fun q => kt q p l e s m args below meth c H la locs cells slots mc ms G CC hS hL hR hF h1 h2) (fun q => kf q p l e s m args below meth c H la locs cells slots mc ms G CC hS hL hR hF h1 h2)
theorem a_ic_lt {x y : Int32} {off : Int} (hC : look C pc = some (.if_icmp .lt off, np, tgt, w)) (kt : x < y → AW S C d Q X k1 k2 tgt ls st h) (kf : ¬ x < y → AW S C d Q X k1 k2 np ls st h) : AW S C d Q X k1 k2 pc ls (.int y :: .int x :: st) h := by
  intro p l e s m args below meth c H la locs cells slots mc ms G CC hS hL hR hF h1 h2
  obtain ⟨hd, rfl, ho⟩ := okd CC.2.2.2.2.2.2.2.2.2 hC rfl
  exact lv_icmp_lt CC.1 CC.2.1 hd (of_decide_eq_true ho) (fun q => kt q p l e s m args below meth c H la locs cells slots mc ms G CC hS hL hR hF h1 h2) (fun q => kf q p l e s m args below meth c H la locs cells slots mc ms G CC hS hL hR hF h1 h2)
theorem a_ic_ge {x y : Int32} {off : Int} (hC : look C pc = some (.if_icmp .ge off, np, tgt, w)) (kt : y ≤ x → AW S C d Q X k1 k2 tgt ls st h) (kf : ¬ y ≤ x → AW S C d Q X k1 k2 np ls st h) : AW S C d Q X k1 k2 pc ls (.int y :: .int x :: st) h := by
  intro p l e s m args below meth c H la locs cells slots mc ms G CC hS hL hR hF h1 h2
  obtain ⟨hd, rfl, ho⟩ := okd CC.2.2.2.2.2.2.2.2.2 hC rfl
  exact lv_icmp_ge CC.1 CC.2.1 hd (of_decide_eq_true ho) (fun q => kt q p l e s m args below meth c H la locs cells slots mc ms G CC hS hL hR hF h1 h2) (fun q => kf q p l e s m args below meth c H la locs cells slots mc ms G CC hS hL hR hF h1 h2)
theorem a_ic_gt {x y : Int32} {off : Int} (hC : look C pc = some (.if_icmp .gt off, np, tgt, w)) (kt : y < x → AW S C d Q X k1 k2 tgt ls st h) (kf : ¬ y < x → AW S C d Q X k1 k2 np ls st h) : AW S C d Q X k1 k2 pc ls (.int y :: .int x :: st) h := by
  intro p l e s m args below meth c H la locs cells slots mc ms G CC hS hL hR hF h1 h2
  obtain ⟨hd, rfl, ho⟩ := okd CC.2.2.2.2.2.2.2.2.2 hC rfl
  exact lv_icmp_gt CC.1 CC.2.1 hd (of_decide_eq_true ho) (fun q => kt q p l e s m args below meth c H la locs cells slots mc ms G CC hS hL hR hF h1 h2) (fun q => kf q p l e s m args below meth c H la locs cells slots mc ms G CC hS hL hR hF h1 h2)
theorem a_ic_le {x y : Int32} {off : Int} (hC : look C pc = some (.if_icmp .le off, np, tgt, w)) (kt : x ≤ y → AW S C d Q X k1 k2 tgt ls st h) (kf : ¬ x ≤ y → AW S C d Q X k1 k2 np ls st h) : AW S C d Q X k1 k2 pc ls (.int y :: .int x :: st) h := by
  intro p l e s m args below meth c H la locs cells slots mc ms G CC hS hL hR hF h1 h2
  obtain ⟨hd, rfl, ho⟩ := okd CC.2.2.2.2.2.2.2.2.2 hC rfl
  exact lv_icmp_le CC.1 CC.2.1 hd (of_decide_eq_true ho) (fun q => kt q p l e s m args below meth c H la locs cells slots mc ms G CC hS hL hR hF h1 h2) (fun q => kf q p l e s m args below meth c H la locs cells slots mc ms G CC hS hL hR hF h1 h2)
theorem a_ifnull_t {off : Int} (hC : look C pc = some (.ifnull off, np, tgt, w)) (k : AW S C d Q X k1 k2 tgt ls st h) : AW S C d Q X k1 k2 pc ls (.null :: st) h := by
  intro p l e s m args below meth c H la locs cells slots mc ms G CC hS hL hR hF h1 h2
  obtain ⟨hd, rfl, ho⟩ := okd CC.2.2.2.2.2.2.2.2.2 hC rfl
  exact lv_ifnullN CC.1 CC.2.1 hd (of_decide_eq_true ho) (k p l e s m args below meth c H la locs cells slots mc ms G CC hS hL hR hF h1 h2)
theorem a_ifnull_f {off : Int} {x : Nat} (hC : look C pc = some (.ifnull off, np, tgt, w)) (k : AW S C d Q X k1 k2 np ls st h) : AW S C d Q X k1 k2 pc ls (.ref x :: st) h := by
  intro p l e s m args below meth c H la locs cells slots mc ms G CC hS hL hR hF h1 h2
  obtain ⟨hd, rfl, ho⟩ := okd CC.2.2.2.2.2.2.2.2.2 hC rfl
  exact lv_ifnull CC.1 CC.2.1 hd (k p l e s m args below meth c H la locs cells slots mc ms G CC hS hL hR hF h1 h2)
theorem a_ifnonnull_f {off : Int} (hC : look C pc = some (.ifnonnull off, np, tgt, w)) (k : AW S C d Q X k1 k2 np ls st h) : AW S C d Q X k1 k2 pc ls (.null :: st) h := by
  intro p l e s m args below meth c H la locs cells slots mc ms G CC hS hL hR hF h1 h2
  obtain ⟨hd, rfl, ho⟩ := okd CC.2.2.2.2.2.2.2.2.2 hC rfl
  exact lv_ifnonnullN CC.1 CC.2.1 hd (k p l e s m args below meth c H la locs cells slots mc ms G CC hS hL hR hF h1 h2)
theorem a_ifnonnull_t {off : Int} {x : Nat} (hC : look C pc = some (.ifnonnull off, np, tgt, w)) (k : AW S C d Q X k1 k2 tgt ls st h) : AW S C d Q X k1 k2 pc ls (.ref x :: st) h := by
  intro p l e s m args below meth c H la locs cells slots mc ms G CC hS hL hR hF h1 h2
  obtain ⟨hd, rfl, ho⟩ := okd CC.2.2.2.2.2.2.2.2.2 hC rfl
  exact lv_ifnonnull CC.1 CC.2.1 hd (of_decide_eq_true ho) (k p l e s m args below meth c H la locs cells slots mc ms G CC hS hL hR hF h1 h2)
/-- 'a.word != Word.X': words are constants, apart or null; rx, ry as reference numbers -/
theorem a_acmp_ne {rx ry : Nat} {off : Int} (hC : look C pc = some (.if_acmp .ne off, np, tgt, w)) (hx : rx = 0 ∨ ∃ E, (rx - 1, E) ∈ S.2.1) (hy : ry = 0 ∨ ∃ E, (ry - 1, E) ∈ S.2.1) (kt : ¬ rx = ry → AW S C d Q X k1 k2 tgt ls st h) (kf : rx = ry → AW S C d Q X k1 k2 np ls st h) : AW S C d Q X k1 k2 pc ls (rv ry :: rv rx :: st) h := by
  intro p l e s m args below meth c H la locs cells slots mc ms G CC hS hL hR hF h1 h2
  obtain ⟨hd, rfl, ho⟩ := okd CC.2.2.2.2.2.2.2.2.2 hC rfl
  have inj := hS.2.2.2.2.2.2
  simp only [List.map_cons, mv_rf]
  have key : rfo G rx = rfo G ry ↔ rx = ry := by
    constructor
    · intro he
      rcases rx with _ | a <;> rcases ry with _ | b
      · rfl
      · cases he
      · cases he
      · rcases hx with hx | ⟨E, hx⟩
        · cases hx
        · rcases hy with hy | ⟨E', hy⟩
          · cases hy
          · exact congrArg (· + 1) (inj (a, E) (b, E') hx hy (Option.some.inj he))
    · intro he
      rw [he]
  exact lv_acmp_ne CC.1 CC.2.1 hd (of_decide_eq_true ho) (fun q => kt (fun z => q (key.mpr z)) p l e s m args below meth c H la locs cells slots mc ms G CC hS hL hR hF h1 h2) (fun q => kf (key.mp q) p l e s m args below meth c H la locs cells slots mc ms G CC hS hL hR hF h1 h2)
end A4
end
section
/-! ===== the rules of AW: locals ===== -/
def kill : Option Value → Option Value
  | some (.long _) => none
  | some (.double _) => none
  | o => o
def lset : List (Option Value) → Nat → Value → List (Option Value)
  | [], _, _ => []
  | _ :: r, 0, v => some v :: r
  | a :: r, 1, v => kill a :: lset r 0 v
  | a :: r, n + 2, v => a :: lset r (n + 1) v
def lset0 : List (Option Value) → Int64 → List (Option Value)
  | _ :: _ :: r, x => some (.long x) :: none :: r
  | _, _ => []
def lsetL (l : List (Option Value)) (i : Nat) (x : Int64) : List (Option Value) := match i, l with
  | 0, l => lset0 l x
  | _, [] => []
  | 1, a :: r => kill a :: lset0 r x
  | n + 2, a :: r => a :: lsetL r (n + 1) x
def notLong : Option Value → Bool
  | some (.long _) => false
  | some (.double _) => false
  | _ => true
theorem kill_id {a : Option Value} (h : notLong a = true) : kill a = a := by
  rcases a with _ | v
  · rfl
  · cases v <;> first | rfl | (cases h; done)
theorem kill_some {a : Option Value} {v : Value} (h : kill a = some v) : a = some v ∧ v.category = 1 := by
  rcases a with _ | x
  · cases h
  · cases x <;> first | (cases h; done) | (cases h; exact ⟨rfl, rfl⟩)
theorem lg_lset {ls : List (Option Value)} {i j : Nat} {v x : Value} (h : lg (lset ls i v) j = some x) : (j = i ∧ x = v) ∨ (j ≠ i ∧ lg ls j = some x ∧ ¬ (j + 1 = i ∧ x.category = 2)) := by
  induction ls generalizing i j with
  | nil => simp [lset, lg] at h
  | cons a r ih =>
    rcases i with _ | _ | i
    · rcases j with _ | j
      · simp only [lset, lg] at h
        cases h
        exact Or.inl ⟨rfl, rfl⟩
      · exact Or.inr ⟨by omega, h, by omega⟩
    · rcases j with _ | j
      · simp only [lset, lg] at h
        obtain ⟨h1, h2⟩ := kill_some h
        exact Or.inr ⟨by omega, h1, by omega⟩
      · simp only [lset, lg] at h
        rcases ih h with ⟨h1, h2⟩ | ⟨h1, h2, h3⟩
        · exact Or.inl ⟨by omega, h2⟩
        · exact Or.inr ⟨by omega, h2, by omega⟩
    · rcases j with _ | j
      · exact Or.inr ⟨by omega, h, by omega⟩
      · simp only [lset, lg] at h
        rcases ih h with ⟨h1, h2⟩ | ⟨h1, h2, h3⟩
        · exact Or.inl ⟨by omega, h2⟩
        · exact Or.inr ⟨by omega, h2, fun z => h3 ⟨by omega, z.2⟩⟩
theorem lg_lsetL {ls : List (Option Value)} {i j : Nat} {v : Int64} {x : Value} (h : lg (lsetL ls i v) j = some x) : (j = i ∧ x = .long v) ∨ (j ≠ i ∧ j ≠ i + 1 ∧ lg ls j = some x ∧ ¬ (j + 1 = i ∧ x.category = 2)) := by
  have base : ∀ {l : List (Option Value)} {j : Nat}, lg (lset0 l v) j = some x → (j = 0 ∧ x = .long v) ∨ (1 < j ∧ lg l j = some x) := by
    intro l j h
    rcases l with _ | ⟨a, _ | ⟨b, r⟩⟩
    · simp [lset0, lg] at h
    · simp [lset0, lg] at h
    · rcases j with _ | _ | j
      · simp only [lset0, lg] at h
        cases h
        exact Or.inl ⟨rfl, rfl⟩
      · simp [lset0, lg] at h
      · exact Or.inr ⟨by omega, h⟩
  induction i using Nat.strongRecOn generalizing ls j with
  | _ i ih =>
    rcases i with _ | _ | i
    · have h : lg (lset0 ls v) j = some x := by cases ls <;> exact h
      rcases base h with ⟨h1, h2⟩ | ⟨h1, h2⟩
      · exact Or.inl ⟨h1, h2⟩
      · exact Or.inr ⟨by omega, by omega, h2, by omega⟩
    · rcases ls with _ | ⟨a, r⟩
      · simp [lsetL, lg] at h
      · have h : lg (kill a :: lset0 r v) j = some x := h
        rcases j with _ | j
        · obtain ⟨h1, h2⟩ := kill_some h
          exact Or.inr ⟨by omega, by omega, h1, by omega⟩
        · rcases base (show lg (lset0 r v) j = some x from h) with ⟨h1, h2⟩ | ⟨h1, h2⟩
          · exact Or.inl ⟨by omega, h2⟩
          · exact Or.inr ⟨by omega, by omega, h2, by omega⟩
    · rcases ls with _ | ⟨a, r⟩
      · simp [lsetL, lg] at h
      · have h : lg (a :: lsetL r (i + 1) v) j = some x := by rw [lsetL] at h; exact h
        rcases j with _ | j
        · exact Or.inr ⟨by omega, by omega, h, by omega⟩
        · rcases ih (i + 1) (by omega) (show lg (lsetL r (i + 1) v) j = some x from h) with ⟨h1, h2⟩ | ⟨h1, h2, h3, h4⟩
          · exact Or.inl ⟨by omega, h2⟩
          · exact Or.inr ⟨by omega, by omega, h3, fun z => h4 ⟨by omega, z.2⟩⟩
def llO (G : aG) : Nat → List (Option Value) → List (Nat × Value)
  | _, [] => []
  | n, none :: r => llO G (n + 1) r
  | n, some v :: r => (n, mv G v) :: llO G (n + 1) r
theorem llO_mem {G : aG} {n : Nat} {ls : List (Option Value)} {q : Nat × Value} : q ∈ llO G n ls ↔ ∃ i v, lg ls i = some v ∧ q = (n + i, mv G v) := by
  induction ls generalizing n with
  | nil => simp [llO, lg]
  | cons a r ih =>
    have sh : (∃ i v, lg r i = some v ∧ q = (n + 1 + i, mv G v)) ↔ ∃ i v, lg (a :: r) (i + 1) = some v ∧ q = (n + (i + 1), mv G v) := by
      constructor
      · rintro ⟨i, v, h1, h2⟩
        exact ⟨i, v, h1, by rw [h2]; simp; omega⟩
      · rintro ⟨i, v, h1, h2⟩
        exact ⟨i, v, h1, by rw [h2]; simp; omega⟩
    cases a with
    | none =>
      rw [llO, ih, sh]
      constructor
      · rintro ⟨i, v, h⟩
        exact ⟨i + 1, v, h⟩
      · rintro ⟨i, v, h1, h2⟩
        rcases i with _ | i
        · simp [lg] at h1
        · exact ⟨i, v, h1, h2⟩
    | some x =>
      rw [llO, List.mem_cons, ih, sh]
      constructor
      · rintro (h | ⟨i, v, h⟩)
        · exact ⟨0, x, rfl, h⟩
        · exact ⟨i + 1, v, h⟩
      · rintro ⟨i, v, h1, h2⟩
        rcases i with _ | i
        · simp only [lg] at h1
          cases h1
          exact Or.inl h2
        · exact Or.inr ⟨i, v, h1, h2⟩
theorem HL.has {G : aG} {la : Array Slot} {nL : Nat} {ls : List (Option Value)} (h : HL G la nL ls) : lv_has la nL (llO G 0 ls) := by
  refine ⟨h.1, h.2.1, fun q hq => ?_⟩
  obtain ⟨i, v, h1, rfl⟩ := llO_mem.mp hq
  simpa using h.2.2 i v h1
theorem HL.st {G : aG} {la' : Array Slot} {nL i : Nat} {v : Value} {ls : List (Option Value)} (h : lv_has la' nL ((i, mv G v) :: (llO G 0 ls).filter (fun q => !(q.1 == i) && !(q.1 + 1 == i && q.2.category == 2)))) : HL G la' nL (lset ls i v) := by
  refine ⟨h.1, h.2.1, fun j x hj => ?_⟩
  rcases lg_lset hj with ⟨rfl, rfl⟩ | ⟨h1, h2, h3⟩
  · exact h.2.2 (j, mv G x) List.mem_cons_self
  · refine h.2.2 (j, mv G x) (List.mem_cons_of_mem _ (List.mem_filter.mpr ⟨llO_mem.mpr ⟨j, x, h2, by simp⟩, ?_⟩))
    simp only [Bool.and_eq_true, Bool.not_eq_true', beq_eq_false_iff_ne, ne_eq, Bool.and_eq_false_iff, mv_cat]
    refine ⟨h1, ?_⟩
    by_cases q : j + 1 = i
    · exact Or.inr fun z => h3 ⟨q, z⟩
    · exact Or.inl q
theorem HL.stL {G : aG} {la' : Array Slot} {nL i : Nat} {v : Int64} {ls : List (Option Value)} (h : lv_has la' nL ((i, .long v) :: (llO G 0 ls).filter (fun q => !(q.1 == i) && (!(q.1 == i + 1) && !(q.1 + 1 == i && q.2.category == 2))))) : HL G la' nL (lsetL ls i v) := by
  refine ⟨h.1, h.2.1, fun j x hj => ?_⟩
  rcases lg_lsetL hj with ⟨rfl, rfl⟩ | ⟨h1, h2, h3, h4⟩
  · exact h.2.2 (j, .long v) List.mem_cons_self
  · refine h.2.2 (j, mv G x) (List.mem_cons_of_mem _ (List.mem_filter.mpr ⟨llO_mem.mpr ⟨j, x, h3, by simp⟩, ?_⟩))
    simp only [Bool.and_eq_true, Bool.not_eq_true', beq_eq_false_iff_ne, ne_eq, Bool.and_eq_false_iff, mv_cat]
    refine ⟨h1, h2, ?_⟩
    by_cases q : j + 1 = i
    · exact Or.inr fun z => h4 ⟨q, z⟩
    · exact Or.inl q
theorem HL.sub {G : aG} {la : Array Slot} {nL : Nat} {ls ls' : List (Option Value)} (h : HL G la nL ls) (hs : ∀ (i : Nat) (v : Value), lg ls' i = some v → lg ls i = some v) : HL G la nL ls' := ⟨h.1, h.2.1, fun i v hi => h.2.2 i v (hs i v hi)⟩
/-- loads and stores: which local, of which kind (0 int, 1 reference, 2 long) -/
def ldI : Instr → Option (Nat × Nat)
  | .iload i => some (i, 0)
  | .iload_n i => some (i.val, 0)
  | .aload i => some (i, 1)
  | .aload_n i => some (i.val, 1)
  | .lload i => some (i, 2)
  | .lload_n i => some (i.val, 2)
  | _ => none
def stI : Instr → Option (Nat × Nat)
  | .istore i => some (i, 0)
  | .istore_n i => some (i.val, 0)
  | .astore i => some (i, 1)
  | .astore_n i => some (i.val, 1)
  | .lstore i => some (i, 2)
  | .lstore_n i => some (i.val, 2)
  | _ => none
def vty : Value → Nat
  | .int _ => 0
  | .ref _ => 1
  | .null => 1
  | .long _ => 2
  | _ => 3
section A5
variable {S : aS} {C : aM} {d : Nat} {Q : Option Value → aH → Prop} {X : String → aH → Prop} {k1 k2 pc np tgt : Nat} {w : Int32} {ls ls' r : List (Option Value)} {st st' : List Value} {h : aH} {ins : Instr}
theorem a_ld {i t : Nat} {v : Value} (hC : look C pc = some (ins, np, tgt, w)) (hi : ldI ins = some (i, t)) (hl : lg ls i = some v) (ht : vty v = t) (k : AW S C d Q X k1 k2 np ls (v :: st) h) : AW S C d Q X k1 k2 pc ls st h := by
  intro p l e s m args below meth c H la locs cells slots mc ms G CC hS hL hR hF h1 h2
  have K := k p l e s m args below meth c H la locs cells slots mc ms G CC hS hL hR hF h1 h2
  have hg := hL.2.2 i v hl
  have hx := CC.1
  have hb := CC.2.1
  have hO := CC.2.2.2.2.2.2.2.2.2
  clear CC
  unfold ldI at hi
  split at hi <;> first | (cases hi; done) | (cases hi; obtain ⟨hd, rfl, -⟩ := okd hO hC rfl; cases v <;> first | (cases ht; done) | skip)
  · exact lv_iload hx hb hd hg K
  · exact lv_iload_n hx hb hd rfl hg K
  · exact lv_aloadN hx hb hd hg K
  · exact lv_aload hx hb hd hg K
  · exact lv_aload_nN hx hb hd rfl hg K
  · exact lv_aload_n hx hb hd rfl hg K
  · exact lv_lload hx hb hd hg K
  · exact lv_lload_n hx hb hd rfl hg K
theorem a_st {i t : Nat} {v : Value} (hC : look C pc = some (ins, np, tgt, w)) (hi : stI ins = some (i, t)) (ht : vty v = t) (ht2 : t < 2) (hn : i < C.2.2.1) (k : AW S C d Q X k1 k2 np (lset ls i v) st h) : AW S C d Q X k1 k2 pc ls (v :: st) h := by
  intro p l e s m args below meth c H la locs cells slots mc ms G CC hS hL hR hF h1 h2
  have K := fun la' q => k p l e s m args below meth c H la' locs cells slots mc ms G CC hS q hR hF h1 h2
  have hx := CC.1
  have hb := CC.2.1
  have hO := CC.2.2.2.2.2.2.2.2.2
  have hh := hL.has
  clear CC
  unfold stI at hi
  split at hi <;> first | (cases hi; done) | (cases hi; obtain ⟨hd, rfl, -⟩ := okd hO hC rfl; cases v <;> first | (cases ht; done) | skip)
  · exact lv_istore hx hb hd hh hn rfl (fun la' q => K la' (HL.st q))
  · exact lv_istore_n hx hb hd rfl hh hn rfl (fun la' q => K la' (HL.st q))
  · exact lv_astoreN hx hb hd hh hn rfl (fun la' q => K la' (HL.st q))
  · exact lv_astore hx hb hd hh hn rfl (fun la' q => K la' (HL.st q))
  · exact lv_astore_nN hx hb hd rfl hh hn rfl (fun la' q => K la' (HL.st q))
  · exact lv_astore_n hx hb hd rfl hh hn rfl (fun la' q => K la' (HL.st q))
  · omega
  · omega
theorem a_stL {i : Nat} {v : Int64} (hC : look C pc = some (ins, np, tgt, w)) (hi : stI ins = some (i, 2)) (hn : i + 1 < C.2.2.1) (k : AW S C d Q X k1 k2 np (lsetL ls i v) st h) : AW S C d Q X k1 k2 pc ls (.long v :: st) h := by
  intro p l e s m args below meth c H la locs cells slots mc ms G CC hS hL hR hF h1 h2
  have K := fun la' q => k p l e s m args below meth c H la' locs cells slots mc ms G CC hS q hR hF h1 h2
  have hx := CC.1
  have hb := CC.2.1
  have hO := CC.2.2.2.2.2.2.2.2.2
  have hh := hL.has
  clear CC
  unfold stI at hi
  split at hi <;> first | (cases hi; done) | (cases hi; obtain ⟨hd, rfl, -⟩ := okd hO hC rfl)
  · exact lv_lstore hx hb hd hh hn rfl (fun la' q => K la' (HL.stL q))
  · exact lv_lstore_n hx hb hd rfl hh hn rfl (fun la' q => K la' (HL.stL q))
theorem a_inc {i : Nat} {n : Int} {x : Int32} (hC : look C pc = some (.iinc i n, np, tgt, w)) (hl : lg ls i = some (.int x)) (hn : i < C.2.2.1) (k : AW S C d Q X k1 k2 np (lset ls i (.int (x + w))) st h) : AW S C d Q X k1 k2 pc ls st h := by
  intro p l e s m args below meth c H la locs cells slots mc ms G CC hS hL hR hF h1 h2
  obtain ⟨hd, rfl, ho⟩ := okd CC.2.2.2.2.2.2.2.2.2 hC rfl
  obtain ⟨kk, hk⟩ := List.getElem?_of_mem ((llO_mem (G := G) (n := 0) (ls := ls) (q := (i, .int x))).mpr ⟨i, .int x, hl, by simp [mv]⟩)
  exact lv_iinc CC.1 CC.2.1 hd hL.has hk (by rw [of_decide_eq_true ho]) hn rfl (fun la' q => k p l e s m args below meth c H la' locs cells slots mc ms G CC hS (HL.st q) hR hF h1 h2)
/-- forget locals -/
theorem a_sub (hs : ∀ (i : Nat) (v : Value), lg ls' i = some v → lg ls i = some v) (k : AW S C d Q X k1 k2 pc ls' st h) : AW S C d Q X k1 k2 pc ls st h := by
  intro p l e s m args below meth c H la locs cells slots mc ms G CC hS hL hR hF h1 h2
  exact k p l e s m args below meth c H la locs cells slots mc ms G CC hS (hL.sub hs) hR hF h1 h2
def lsub : List (Option Value) → List (Option Value) → Prop
  | [], _ => True
  | none :: r, _ :: r' => lsub r r'
  | some v :: r, o :: r' => o = some v ∧ lsub r r'
  | _ :: _, [] => False
theorem lsub_lg {ls ls' : List (Option Value)} (h : lsub ls' ls) : ∀ (i : Nat) (v : Value), lg ls' i = some v → lg ls i = some v := by
  induction ls' generalizing ls with
  | nil => intro i v hv; simp [lg] at hv
  | cons a r ih =>
    intro i v hv
    cases ls with
    | nil => cases a <;> exact False.elim h
    | cons b r' =>
      cases a with
      | none =>
        rcases i with _ | i
        · simp [lg] at hv
        · exact ih h i v hv
      | some x =>
        obtain ⟨rfl, h⟩ := h
        rcases i with _ | i
        · exact hv
        · exact ih h i v hv
theorem a_less (k : AW S C d Q X k1 k2 pc ls' st h) (hs : lsub ls' ls) : AW S C d Q X k1 k2 pc ls st h := a_sub (lsub_lg hs) k
theorem a_l0 {t : Nat} {v : Value} (hC : look C pc = some (ins, np, tgt, w)) (hi : ldI ins = some (0, t)) (ht : vty v = t) (k : AW S C d Q X k1 k2 np (some v :: r) (v :: st) h) : AW S C d Q X k1 k2 pc (some v :: r) st h := a_ld hC hi rfl ht k
theorem a_s0 {t : Nat} {v : Value} {oo : Option Value} (hC : look C pc = some (ins, np, tgt, w)) (hi : stI ins = some (0, t)) (ht : vty v = t) (ht2 : Nat.blt t 2 = true) (hn : Nat.ble 1 C.2.2.1 = true) (k : AW S C d Q X k1 k2 np (some v :: r) st h) : AW S C d Q X k1 k2 pc (oo :: r) (v :: st) h := a_st hC hi ht (Nat.le_of_ble_eq_true ht2) (Nat.le_of_ble_eq_true hn) (k)
theorem a_sL0 {v : Int64} {oo o2 : Option Value} (hC : look C pc = some (ins, np, tgt, w)) (hi : stI ins = some (0, 2)) (hn : Nat.ble 2 C.2.2.1 = true) (k : AW S C d Q X k1 k2 np (some (.long v) :: none :: r) st h) : AW S C d Q X k1 k2 pc (oo :: o2 :: r) (.long v :: st) h := a_stL hC hi (Nat.le_of_ble_eq_true hn) (k)
theorem a_i0 {n : Int} {x : Int32} (hC : look C pc = some (.iinc 0 n, np, tgt, w)) (hn : Nat.ble 1 C.2.2.1 = true) (k : AW S C d Q X k1 k2 np (some (.int (x + w)) :: r) st h) : AW S C d Q X k1 k2 pc (some (.int x) :: r) st h := a_inc hC rfl (Nat.le_of_ble_eq_true hn) (k)
theorem a_l1 {a0 : Option Value} {t : Nat} {v : Value} (hC : look C pc = some (ins, np, tgt, w)) (hi : ldI ins = some (1, t)) (ht : vty v = t) (k : AW S C d Q X k1 k2 np (a0 :: some v :: r) (v :: st) h) : AW S C d Q X k1 k2 pc (a0 :: some v :: r) st h := a_ld hC hi rfl ht k
theorem a_s1 {a0 : Option Value} {t : Nat} {v : Value} {oo : Option Value} (hC : look C pc = some (ins, np, tgt, w)) (hi : stI ins = some (1, t)) (ht : vty v = t) (ht2 : Nat.blt t 2 = true) (hl : notLong a0 = true) (hn : Nat.ble 2 C.2.2.1 = true) (k : AW S C d Q X k1 k2 np (a0 :: some v :: r) st h) : AW S C d Q X k1 k2 pc (a0 :: oo :: r) (v :: st) h := a_st hC hi ht (Nat.le_of_ble_eq_true ht2) (Nat.le_of_ble_eq_true hn) (by rw [show lset (a0 :: oo :: r) 1 v = a0 :: some v :: r by simp [lset, kill_id hl]]; exact k)
theorem a_sL1 {a0 : Option Value} {v : Int64} {oo o2 : Option Value} (hC : look C pc = some (ins, np, tgt, w)) (hi : stI ins = some (1, 2)) (hl : notLong a0 = true) (hn : Nat.ble 3 C.2.2.1 = true) (k : AW S C d Q X k1 k2 np (a0 :: some (.long v) :: none :: r) st h) : AW S C d Q X k1 k2 pc (a0 :: oo :: o2 :: r) (.long v :: st) h := a_stL hC hi (Nat.le_of_ble_eq_true hn) (by rw [show lsetL (a0 :: oo :: o2 :: r) 1 v = a0 :: some (.long v) :: none :: r by simp [lsetL, lset0, kill_id hl]]; exact k)
theorem a_i1 {a0 : Option Value} {n : Int} {x : Int32} (hC : look C pc = some (.iinc 1 n, np, tgt, w)) (hl : notLong a0 = true) (hn : Nat.ble 2 C.2.2.1 = true) (k : AW S C d Q X k1 k2 np (a0 :: some (.int (x + w)) :: r) st h) : AW S C d Q X k1 k2 pc (a0 :: some (.int x) :: r) st h := a_inc hC rfl (Nat.le_of_ble_eq_true hn) (by rw [show lset (a0 :: some (.int x) :: r) 1 (.int (x + w)) = a0 :: some (.int (x + w)) :: r by simp [lset, kill_id hl]]; exact k)
theorem a_l2 {a0 a1 : Option Value} {t : Nat} {v : Value} (hC : look C pc = some (ins, np, tgt, w)) (hi : ldI ins = some (2, t)) (ht : vty v = t) (k : AW S C d Q X k1 k2 np (a0 :: a1 :: some v :: r) (v :: st) h) : AW S C d Q X k1 k2 pc (a0 :: a1 :: some v :: r) st h := a_ld hC hi rfl ht k
theorem a_s2 {a0 a1 : Option Value} {t : Nat} {v : Value} {oo : Option Value} (hC : look C pc = some (ins, np, tgt, w)) (hi : stI ins = some (2, t)) (ht : vty v = t) (ht2 : Nat.blt t 2 = true) (hl : notLong a1 = true) (hn : Nat.ble 3 C.2.2.1 = true) (k : AW S C d Q X k1 k2 np (a0 :: a1 :: some v :: r) st h) : AW S C d Q X k1 k2 pc (a0 :: a1 :: oo :: r) (v :: st) h := a_st hC hi ht (Nat.le_of_ble_eq_true ht2) (Nat.le_of_ble_eq_true hn) (by rw [show lset (a0 :: a1 :: oo :: r) 2 v = a0 :: a1 :: some v :: r by simp [lset, kill_id hl]]; exact k)
theorem a_sL2 {a0 a1 : Option Value} {v : Int64} {oo o2 : Option Value} (hC : look C pc = some (ins, np, tgt, w)) (hi : stI ins = some (2, 2)) (hl : notLong a1 = true) (hn : Nat.ble 4 C.2.2.1 = true) (k : AW S C d Q X k1 k2 np (a0 :: a1 :: some (.long v) :: none :: r) st h) : AW S C d Q X k1 k2 pc (a0 :: a1 :: oo :: o2 :: r) (.long v :: st) h := a_stL hC hi (Nat.le_of_ble_eq_true hn) (by rw [show lsetL (a0 :: a1 :: oo :: o2 :: r) 2 v = a0 :: a1 :: some (.long v) :: none :: r by simp [lsetL, lset0, kill_id hl]]; exact k)
theorem a_i2 {a0 a1 : Option Value} {n : Int} {x : Int32} (hC : look C pc = some (.iinc 2 n, np, tgt, w)) (hl : notLong a1 = true) (hn : Nat.ble 3 C.2.2.1 = true) (k : AW S C d Q X k1 k2 np (a0 :: a1 :: some (.int (x + w)) :: r) st h) : AW S C d Q X k1 k2 pc (a0 :: a1 :: some (.int x) :: r) st h := a_inc hC rfl (Nat.le_of_ble_eq_true hn) (by rw [show lset (a0 :: a1 :: some (.int x) :: r) 2 (.int (x + w)) = a0 :: a1 :: some (.int (x + w)) :: r by simp [lset, kill_id hl]]; exact k)
theorem a_l3 {a0 a1 a2 : Option Value} {t : Nat} {v : Value} (hC : look C pc = some (ins, np, tgt, w)) (hi : ldI ins = some (3, t)) (ht : vty v = t) (k : AW S C d Q X k1 k2 np (a0 :: a1 :: a2 :: some v :: r) (v :: st) h) : AW S C d Q X k1 k2 pc (a0 :: a1 :: a2 :: some v :: r) st h := a_ld hC hi rfl ht k
theorem a_s3 {a0 a1 a2 : Option Value} {t : Nat} {v : Value} {oo : Option Value} (hC : look C pc = some (ins, np, tgt, w)) (hi : stI ins = some (3, t)) (ht : vty v = t) (ht2 : Nat.blt t 2 = true) (hl : notLong a2 = true) (hn : Nat.ble 4 C.2.2.1 = true) (k : AW S C d Q X k1 k2 np (a0 :: a1 :: a2 :: some v :: r) st h) : AW S C d Q X k1 k2 pc (a0 :: a1 :: a2 :: oo :: r) (v :: st) h := a_st hC hi ht (Nat.le_of_ble_eq_true ht2) (Nat.le_of_ble_eq_true hn) (by rw [show lset (a0 :: a1 :: a2 :: oo :: r) 3 v = a0 :: a1 :: a2 :: some v :: r by simp [lset, kill_id hl]]; exact k)
theorem a_sL3 {a0 a1 a2 : Option Value} {v : Int64} {oo o2 : Option Value} (hC : look C pc = some (ins, np, tgt, w)) (hi : stI ins = some (3, 2)) (hl : notLong a2 = true) (hn : Nat.ble 5 C.2.2.1 = true) (k : AW S C d Q X k1 k2 np (a0 :: a1 :: a2 :: some (.long v) :: none :: r) st h) : AW S C d Q X k1 k2 pc (a0 :: a1 :: a2 :: oo :: o2 :: r) (.long v :: st) h := a_stL hC hi (Nat.le_of_ble_eq_true hn) (by rw [show lsetL (a0 :: a1 :: a2 :: oo :: o2 :: r) 3 v = a0 :: a1 :: a2 :: some (.long v) :: none :: r by simp [lsetL, lset0, kill_id hl]]; exact k)
theorem a_i3 {a0 a1 a2 : Option Value} {n : Int} {x : Int32} (hC : look C pc = some (.iinc 3 n, np, tgt, w)) (hl : notLong a2 = true) (hn : Nat.ble 4 C.2.2.1 = true) (k : AW S C d Q X k1 k2 np (a0 :: a1 :: a2 :: some (.int (x + w)) :: r) st h) : AW S C d Q X k1 k2 pc (a0 :: a1 :: a2 :: some (.int x) :: r) st h := a_inc hC rfl (Nat.le_of_ble_eq_true hn) (by rw [show lset (a0 :: a1 :: a2 :: some (.int x) :: r) 3 (.int (x + w)) = a0 :: a1 :: a2 :: some (.int (x + w)) :: r by simp [lset, kill_id hl]]; exact k)
theorem a_l4 {a0 a1 a2 a3 : Option Value} {t : Nat} {v : Value} (hC : look C pc = some (ins, np, tgt, w)) (hi : ldI ins = some (4, t)) (ht : vty v = t) (k : AW S C d Q X k1 k2 np (a0 :: a1 :: a2 :: a3 :: some v :: r) (v :: st) h) : AW S C d Q X k1 k2 pc (a0 :: a1 :: a2 :: a3 :: some v :: r) st h := a_ld hC hi rfl ht k
theorem a_s4 {a0 a1 a2 a3 : Option Value} {t : Nat} {v : Value} {oo : Option Value} (hC : look C pc = some (ins, np, tgt, w)) (hi : stI ins = some (4, t)) (ht : vty v = t) (ht2 : Nat.blt t 2 = true) (hl : notLong a3 = true) (hn : Nat.ble 5 C.2.2.1 = true) (k : AW S C d Q X k1 k2 np (a0 :: a1 :: a2 :: a3 :: some v :: r) st h) : AW S C d Q X k1 k2 pc (a0 :: a1 :: a2 :: a3 :: oo :: r) (v :: st) h := a_st hC hi ht (Nat.le_of_ble_eq_true ht2) (Nat.le_of_ble_eq_true hn) (by rw [show lset (a0 :: a1 :: a2 :: a3 :: oo :: r) 4 v = a0 :: a1 :: a2 :: a3 :: some v :: r by simp [lset, kill_id hl]]; exact k)
theorem a_sL4 {a0 a1 a2 a3 : Option Value} {v : Int64} {oo o2 : Option Value} (hC : look C pc = some (ins, np, tgt, w)) (hi : stI ins = some (4, 2)) (hl : notLong a3 = true) (hn : Nat.ble 6 C.2.2.1 = true) (k : AW S C d Q X k1 k2 np (a0 :: a1 :: a2 :: a3 :: some (.long v) :: none :: r) st h) : AW S C d Q X k1 k2 pc (a0 :: a1 :: a2 :: a3 :: oo :: o2 :: r) (.long v :: st) h := a_stL hC hi (Nat.le_of_ble_eq_true hn) (by rw [show lsetL (a0 :: a1 :: a2 :: a3 :: oo :: o2 :: r) 4 v = a0 :: a1 :: a2 :: a3 :: some (.long v) :: none :: r by simp [lsetL, lset0, kill_id hl]]; exact k)
theorem a_i4 {a0 a1 a2 a3 : Option Value} {n : Int} {x : Int32} (hC : look C pc = some (.iinc 4 n, np, tgt, w)) (hl : notLong a3 = true) (hn : Nat.ble 5 C.2.2.1 = true) (k : AW S C d Q X k1 k2 np (a0 :: a1 :: a2 :: a3 :: some (.int (x + w)) :: r) st h) : AW S C d Q X k1 k2 pc (a0 :: a1 :: a2 :: a3 :: some (.int x) :: r) st h := a_inc hC rfl (Nat.le_of_ble_eq_true hn) (by rw [show lset (a0 :: a1 :: a2 :: a3 :: some (.int x) :: r) 4 (.int (x + w)) = a0 :: a1 :: a2 :: a3 :: some (.int (x + w)) :: r by simp [lset, kill_id hl]]; exact k)
theorem a_l5 {a0 a1 a2 a3 a4 : Option Value} {t : Nat} {v : Value} (hC : look C pc = some (ins, np, tgt, w)) (hi : ldI ins = some (5, t)) (ht : vty v = t) (k : AW S C d Q X k1 k2 np (a0 :: a1 :: a2 :: a3 :: a4 :: some v :: r) (v :: st) h) : AW S C d Q X k1 k2 pc (a0 :: a1 :: a2 :: a3 :: a4 :: some v :: r) st h := a_ld hC hi rfl ht k
theorem a_s5 {a0 a1 a2 a3 a4 : Option Value} {t : Nat} {v : Value} {oo : Option Value} (hC : look C pc = some (ins, np, tgt, w)) (hi : stI ins = some (5, t)) (ht : vty v = t) (ht2 : Nat.blt t 2 = true) (hl : notLong a4 = true) (hn : Nat.ble 6 C.2.2.1 = true) (k : AW S C d Q X k1 k2 np (a0 :: a1 :: a2 :: a3 :: a4 :: some v :: r) st h) : AW S C d Q X k1 k2 pc (a0 :: a1 :: a2 :: a3 :: a4 :: oo :: r) (v :: st) h := a_st hC hi ht (Nat.le_of_ble_eq_true ht2) (Nat.le_of_ble_eq_true hn) (by rw [show lset (a0 :: a1 :: a2 :: a3 :: a4 :: oo :: r) 5 v = a0 :: a1 :: a2 :: a3 :: a4 :: some v :: r by simp [lset, kill_id hl]]; exact k)
theorem a_sL5 {a0 a1 a2 a3 a4 : Option Value} {v : Int64} {oo o2 : Option Value} (hC : look C pc = some (ins, np, tgt, w)) (hi : stI ins = some (5, 2)) (hl : notLong a4 = true) (hn : Nat.ble 7 C.2.2.1 = true) (k : AW S C d Q X k1 k2 np (a0 :: a1 :: a2 :: a3 :: a4 :: some (.long v) :: none :: r) st h) : AW S C d Q X k1 k2 pc (a0 :: a1 :: a2 :: a3 :: a4 :: oo :: o2 :: r) (.long v :: st) h := a_stL hC hi (Nat.le_of_ble_eq_true hn) (by rw [show lsetL (a0 :: a1 :: a2 :: a3 :: a4 :: oo :: o2 :: r) 5 v = a0 :: a1 :: a2 :: a3 :: a4 :: some (.long v) :: none :: r by simp [lsetL, lset0, kill_id hl]]; exact k)
theorem a_i5 {a0 a1 a2 a3 a4 : Option Value} {n : Int} {x : Int32} (hC : look C pc = some (.iinc 5 n, np, tgt, w)) (hl : notLong a4 = true) (hn : Nat.ble 6 C.2.2.1 = true) (k : AW S C d Q X k1 k2 np (a0 :: a1 :: a2 :: a3 :: a4 :: some (.int (x + w)) :: r) st h) : AW S C d Q X k1 k2 pc (a0 :: a1 :: a2 :: a3 :: a4 :: some (.int x) :: r) st h := a_inc hC rfl (Nat.le_of_ble_eq_true hn) (by rw [show lset (a0 :: a1 :: a2 :: a3 :: a4 :: some (.int x) :: r) 5 (.int (x + w)) = a0 :: a1 :: a2 :: a3 :: a4 :: some (.int (x + w)) :: r by simp [lset, kill_id hl]]; exact k)
theorem a_l6 {a0 a1 a2 a3 a4 a5 : Option Value} {t : Nat} {v : Value} (hC : look C pc = some (ins, np, tgt, w)) (hi : ldI ins = some (6, t)) (ht : vty v = t) (k : AW S C d Q X k1 k2 np (a0 :: a1 :: a2 :: a3 :: a4 :: a5 :: some v :: r) (v :: st) h) : AW S C d Q X k1 k2 pc (a0 :: a1 :: a2 :: a3 :: a4 :: a5 :: some v :: r) st h := a_ld hC hi rfl ht k
theorem a_s6 {a0 a1 a2 a3 a4 a5 : Option Value} {t : Nat} {v : Value} {oo : Option Value} (hC : look C pc = some (ins, np, tgt, w)) (hi : stI ins = some (6, t)) (ht : vty v = t) (ht2 : Nat.blt t 2 = true) (hl : notLong a5 = true) (hn : Nat.ble 7 C.2.2.1 = true) (k : AW S C d Q X k1 k2 np (a0 :: a1 :: a2 :: a3 :: a4 :: a5 :: some v :: r) st h) : AW S C d Q X k1 k2 pc (a0 :: a1 :: a2 :: a3 :: a4 :: a5 :: oo :: r) (v :: st) h := a_st hC hi ht (Nat.le_of_ble_eq_true ht2) (Nat.le_of_ble_eq_true hn) (by rw [show lset (a0 :: a1 :: a2 :: a3 :: a4 :: a5 :: oo :: r) 6 v = a0 :: a1 :: a2 :: a3 :: a4 :: a5 :: some v :: r by simp [lset, kill_id hl]]; exact k)
theorem a_sL6 {a0 a1 a2 a3 a4 a5 : Option Value} {v : Int64} {oo o2 : Option Value} (hC : look C pc = some (ins, np, tgt, w)) (hi : stI ins = some (6, 2)) (hl : notLong a5 = true) (hn : Nat.ble 8 C.2.2.1 = true) (k : AW S C d Q X k1 k2 np (a0 :: a1 :: a2 :: a3 :: a4 :: a5 :: some (.long v) :: none :: r) st h) : AW S C d Q X k1 k2 pc (a0 :: a1 :: a2 :: a3 :: a4 :: a5 :: oo :: o2 :: r) (.long v :: st) h := a_stL hC hi (Nat.le_of_ble_eq_true hn) (by rw [show lsetL (a0 :: a1 :: a2 :: a3 :: a4 :: a5 :: oo :: o2 :: r) 6 v = a0 :: a1 :: a2 :: a3 :: a4 :: a5 :: some (.long v) :: none :: r by simp [lsetL, lset0, kill_id hl]]; exact k)
theorem a_i6 {a0 a1 a2 a3 a4 a5 : Option Value} {n : Int} {x : Int32} (hC : look C pc = some (.iinc 6 n, np, tgt, w)) (hl : notLong a5 = true) (hn : Nat.ble 7 C.2.2.1 = true) (k : AW S C d Q X k1 k2 np (a0 :: a1 :: a2 :: a3 :: a4 :: a5 :: some (.int (x + w)) :: r) st h) : AW S C d Q X k1 k2 pc (a0 :: a1 :: a2 :: a3 :: a4 :: a5 :: some (.int x) :: r) st h := a_inc hC rfl (Nat.le_of_ble_eq_true hn) (by rw [show lset (a0 :: a1 :: a2 :: a3 :: a4 :: a5 :: some (.int x) :: r) 6 (.int (x + w)) = a0 :: a1 :: a2 :: a3 :: a4 :: a5 :: some (.int (x + w)) :: r by simp [lset, kill_id hl]]; exact k)
theorem a_l7 {a0 a1 a2 a3 a4 a5 a6 : Option Value} {t : Nat} {v : Value} (hC : look C pc = some (ins, np, tgt, w)) (hi : ldI ins = some (7, t)) (ht : vty v = t) (k : AW S C d Q X k1 k2 np (a0 :: a1 :: a2 :: a3 :: a4 :: a5 :: a6 :: some v :: r) (v :: st) h) : AW S C d Q X k1 k2 pc (a0 :: a1 :: a2 :: a3 :: a4 :: a5 :: a6 :: some v :: r) st h := a_ld hC hi rfl ht k
theorem a_s7 {a0 a1 a2 a3 a4 a5 a6 : Option Value} {t : Nat} {v : Value} {oo : Option Value} (hC : look C pc = some (ins, np, tgt, w)) (hi : stI ins = some (7, t)) (ht : vty v = t) (ht2 : Nat.blt t 2 = true) (hl : notLong a6 = true) (hn : Nat.ble 8 C.2.2.1 = true) (k : AW S C d Q X k1 k2 np (a0 :: a1 :: a2 :: a3 :: a4 :: a5 :: a6 :: some v :: r) st h) : AW S C d Q X k1 k2 pc (a0 :: a1 :: a2 :: a3 :: a4 :: a5 :: a6 :: oo :: r) (v :: st) h := a_st hC hi ht (Nat.le_of_ble_eq_true ht2) (Nat.le_of_ble_eq_true hn) (by rw [show lset (a0 :: a1 :: a2 :: a3 :: a4 :: a5 :: a6 :: oo :: r) 7 v = a0 :: a1 :: a2 :: a3 :: a4 :: a5 :: a6 :: some v :: r by simp [lset, kill_id hl]]; exact k)
theorem a_sL7 {a0 a1 a2 a3 a4 a5 a6 : Option Value} {v : Int64} {oo o2 : Option Value} (hC : look C pc = some (ins, np, tgt, w)) (hi : stI ins = some (7, 2)) (hl : notLong a6 = true) (hn : Nat.ble 9 C.2.2.1 = true) (k : AW S C d Q X k1 k2 np (a0 :: a1 :: a2 :: a3 :: a4 :: a5 :: a6 :: some (.long v) :: none :: r) st h) : AW S C d Q X k1 k2 pc (a0 :: a1 :: a2 :: a3 :: a4 :: a5 :: a6 :: oo :: o2 :: r) (.long v :: st) h := a_stL hC hi (Nat.le_of_ble_eq_true hn) (by rw [show lsetL (a0 :: a1 :: a2 :: a3 :: a4 :: a5 :: a6 :: oo :: o2 :: r) 7 v = a0 :: a1 :: a2 :: a3 :: a4 :: a5 :: a6 :: some (.long v) :: none :: r by simp [lsetL, lset0, kill_id hl]]; exact k)
theorem a_i7 {a0 a1 a2 a3 a4 a5 a6 : Option Value} {n : Int} {x : Int32} (hC : look C pc = some (.iinc 7 n, np, tgt, w)) (hl : notLong a6 = true) (hn : Nat.ble 8 C.2.2.1 = true) (k : AW S C d Q X k1 k2 np (a0 :: a1 :: a2 :: a3 :: a4 :: a5 :: a6 :: some (.int (x + w)) :: r) st h) : AW S C d Q X k1 k2 pc (a0 :: a1 :: a2 :: a3 :: a4 :: a5 :: a6 :: some (.int x) :: r) st h := a_inc hC rfl (Nat.le_of_ble_eq_true hn) (by rw [show lset (a0 :: a1 :: a2 :: a3 :: a4 :: a5 :: a6 :: some (.int x) :: r) 7 (.int (x + w)) = a0 :: a1 :: a2 :: a3 :: a4 :: a5 :: a6 :: some (.int (x + w)) :: r by simp [lset, kill_id hl]]; exact k)
theorem a_l8 {a0 a1 a2 a3 a4 a5 a6 a7 : Option Value} {t : Nat} {v : Value} (hC : look C pc = some (ins, np, tgt, w)) (hi : ldI ins = some (8, t)) (ht : vty v = t) (k : AW S C d Q X k1 k2 np (a0 :: a1 :: a2 :: a3 :: a4 :: a5 :: a6 :: a7 :: some v :: r) (v :: st) h) : AW S C d Q X k1 k2 pc (a0 :: a1 :: a2 :: a3 :: a4 :: a5 :: a6 :: a7 :: some v :: r) st h := a_ld hC hi rfl ht k
theorem a_s8 {a0 a1 a2 a3 a4 a5 a6 a7 : Option Value} {t : Nat} {v : Value} {oo : Option Value} (hC : look C pc = some (ins, np, tgt, w)) (hi : stI ins = some (8, t)) (ht : vty v = t) (ht2 : Nat.blt t 2 = true) (hl : notLong a7 = true) (hn : Nat.ble 9 C.2.2.1 = true) (k : AW S C d Q X k1 k2 np (a0 :: a1 :: a2 :: a3 :: a4 :: a5 :: a6 :: a7 :: some v :: r) st h) : AW S C d Q X k1 k2 pc (a0 :: a1 :: a2 :: a3 :: a4 :: a5 :: a6 :: a7 :: oo :: r) (v :: st) h := a_st hC hi ht (Nat.le_of_ble_eq_true ht2) (Nat.le_of_ble_eq_true hn) (by rw [show lset (a0 :: a1 :: a2 :: a3 :: a4 :: a5 :: a6 :: a7 :: oo :: r) 8 v = a0 :: a1 :: a2 :: a3 :: a4 :: a5 :: a6 :: a7 :: some v :: r by simp [lset, kill_id hl]]; exact k)
theorem a_sL8 {a0 a1 a2 a3 a4 a5 a6 a7 : Option Value} {v : Int64} {oo o2 : Option Value} (hC : look C pc = some (ins, np, tgt, w)) (hi : stI ins = some (8, 2)) (hl : notLong a7 = true) (hn : Nat.ble 10 C.2.2.1 = true) (k : AW S C d Q X k1 k2 np (a0 :: a1 :: a2 :: a3 :: a4 :: a5 :: a6 :: a7 :: some (.long v) :: none :: r) st h) : AW S C d Q X k1 k2 pc (a0 :: a1 :: a2 :: a3 :: a4 :: a5 :: a6 :: a7 :: oo :: o2 :: r) (.long v :: st) h := a_stL hC hi (Nat.le_of_ble_eq_true hn) (by rw [show lsetL (a0 :: a1 :: a2 :: a3 :: a4 :: a5 :: a6 :: a7 :: oo :: o2 :: r) 8 v = a0 :: a1 :: a2 :: a3 :: a4 :: a5 :: a6 :: a7 :: some (.long v) :: none :: r by simp [lsetL, lset0, kill_id hl]]; exact k)
theorem a_i8 {a0 a1 a2 a3 a4 a5 a6 a7 : Option Value} {n : Int} {x : Int32} (hC : look C pc = some (.iinc 8 n, np, tgt, w)) (hl : notLong a7 = true) (hn : Nat.ble 9 C.2.2.1 = true) (k : AW S C d Q X k1 k2 np (a0 :: a1 :: a2 :: a3 :: a4 :: a5 :: a6 :: a7 :: some (.int (x + w)) :: r) st h) : AW S C d Q X k1 k2 pc (a0 :: a1 :: a2 :: a3 :: a4 :: a5 :: a6 :: a7 :: some (.int x) :: r) st h := a_inc hC rfl (Nat.le_of_ble_eq_true hn) (by rw [show lset (a0 :: a1 :: a2 :: a3 :: a4 :: a5 :: a6 :: a7 :: some (.int x) :: r) 8 (.int (x + w)) = a0 :: a1 :: a2 :: a3 :: a4 :: a5 :: a6 :: a7 :: some (.int (x + w)) :: r by simp [lset, kill_id hl]]; exact k)
theorem a_l9 {a0 a1 a2 a3 a4 a5 a6 a7 a8 : Option Value} {t : Nat} {v : Value} (hC : look C pc = some (ins, np, tgt, w)) (hi : ldI ins = some (9, t)) (ht : vty v = t) (k : AW S C d Q X k1 k2 np (a0 :: a1 :: a2 :: a3 :: a4 :: a5 :: a6 :: a7 :: a8 :: some v :: r) (v :: st) h) : AW S C d Q X k1 k2 pc (a0 :: a1 :: a2 :: a3 :: a4 :: a5 :: a6 :: a7 :: a8 :: some v :: r) st h := a_ld hC hi rfl ht k
theorem a_s9 {a0 a1 a2 a3 a4 a5 a6 a7 a8 : Option Value} {t : Nat} {v : Value} {oo : Option Value} (hC : look C pc = some (ins, np, tgt, w)) (hi : stI ins = some (9, t)) (ht : vty v = t) (ht2 : Nat.blt t 2 = true) (hl : notLong a8 = true) (hn : Nat.ble 10 C.2.2.1 = true) (k : AW S C d Q X k1 k2 np (a0 :: a1 :: a2 :: a3 :: a4 :: a5 :: a6 :: a7 :: a8 :: some v :: r) st h) : AW S C d Q X k1 k2 pc (a0 :: a1 :: a2 :: a3 :: a4 :: a5 :: a6 :: a7 :: a8 :: oo :: r) (v :: st) h := a_st hC hi ht (Nat.le_of_ble_eq_true ht2) (Nat.le_of_ble_eq_true hn) (by rw [show lset (a0 :: a1 :: a2 :: a3 :: a4 :: a5 :: a6 :: a7 :: a8 :: oo :: r) 9 v = a0 :: a1 :: a2 :: a3 :: a4 :: a5 :: a6 :: a7 :: a8 :: some v :: r by simp [lset, kill_id hl]]; exact k)
theorem a_sL9 {a0 a1 a2 a3 a4 a5 a6 a7 a8 : Option Value} {v : Int64} {oo o2 : Option Value} (hC : look C pc = some (ins, np, tgt, w)) (hi : stI ins = some (9, 2)) (hl : notLong a8 = true) (hn : Nat.ble 11 C.2.2.1 = true) (k : AW S C d Q X k1 k2 np (a0 :: a1 :: a2 :: a3 :: a4 :: a5 :: a6 :: a7 :: a8 :: some (.long v) :: none :: r) st h) : AW S C d Q X k1 k2 pc (a0 :: a1 :: a2 :: a3 :: a4 :: a5 :: a6 :: a7 :: a8 :: oo :: o2 :: r) (.long v :: st) h := a_stL hC hi (Nat.le_of_ble_eq_true hn) (by rw [show lsetL (a0 :: a1 :: a2 :: a3 :: a4 :: a5 :: a6 :: a7 :: a8 :: oo :: o2 :: r) 9 v = a0 :: a1 :: a2 :: a3 :: a4 :: a5 :: a6 :: a7 :: a8 :: some (.long v) :: none :: r by simp [lsetL, lset0, kill_id hl]]; exact k)
theorem a_i9 {a0 a1 a2 a3 a4 a5 a6 a7 a8 : Option Value} {n : Int} {x : Int32} (hC : look C pc = some (.iinc 9 n, np, tgt, w)) (hl : notLong a8 = true) (hn : Nat.ble 10 C.2.2.1 = true) (k : AW S C d Q X k1 k2 np (a0 :: a1 :: a2 :: a3 :: a4 :: a5 :: a6 :: a7 :: a8 :: some (.int (x + w)) :: r) st h) : AW S C d Q X k1 k2 pc (a0 :: a1 :: a2 :: a3 :: a4 :: a5 :: a6 :: a7 :: a8 :: some (.int x) :: r) st h := a_inc hC rfl (Nat.le_of_ble_eq_true hn) (by rw [show lset (a0 :: a1 :: a2 :: a3 :: a4 :: a5 :: a6 :: a7 :: a8 :: some (.int x) :: r) 9 (.int (x + w)) = a0 :: a1 :: a2 :: a3 :: a4 :: a5 :: a6 :: a7 :: a8 :: some (.int (x + w)) :: r by simp [lset, kill_id hl]]; exact k)
theorem a_l10 {a0 a1 a2 a3 a4 a5 a6 a7 a8 a9 : Option Value} {t : Nat} {v : Value} (hC : look C pc = some (ins, np, tgt, w)) (hi : ldI ins = some (10, t)) (ht : vty v = t) (k : AW S C d Q X k1 k2 np (a0 :: a1 :: a2 :: a3 :: a4 :: a5 :: a6 :: a7 :: a8 :: a9 :: some v :: r) (v :: st) h) : AW S C d Q X k1 k2 pc (a0 :: a1 :: a2 :: a3 :: a4 :: a5 :: a6 :: a7 :: a8 :: a9 :: some v :: r) st h := a_ld hC hi rfl ht k
theorem a_s10 {a0 a1 a2 a3 a4 a5 a6 a7 a8 a9 : Option Value} {t : Nat} {v : Value} {oo : Option Value} (hC : look C pc = some (ins, np, tgt, w)) (hi : stI ins = some (10, t)) (ht : vty v = t) (ht2 : Nat.blt t 2 = true) (hl : notLong a9 = true) (hn : Nat.ble 11 C.2.2.1 = true) (k : AW S C d Q X k1 k2 np (a0 :: a1 :: a2 :: a3 :: a4 :: a5 :: a6 :: a7 :: a8 :: a9 :: some v :: r) st h) : AW S C d Q X k1 k2 pc (a0 :: a1 :: a2 :: a3 :: a4 :: a5 :: a6 :: a7 :: a8 :: a9 :: oo :: r) (v :: st) h := a_st hC hi ht (Nat.le_of_ble_eq_true ht2) (Nat.le_of_ble_eq_true hn) (by rw [show lset (a0 :: a1 :: a2 :: a3 :: a4 :: a5 :: a6 :: a7 :: a8 :: a9 :: oo :: r) 10 v = a0 :: a1 :: a2 :: a3 :: a4 :: a5 :: a6 :: a7 :: a8 :: a9 :: some v :: r by simp [lset, kill_id hl]]; exact k)
theorem a_sL10 {a0 a1 a2 a3 a4 a5 a6 a7 a8 a9 : Option Value} {v : Int64} {oo o2 : Option Value} (hC : look C pc = some (ins, np, tgt, w)) (hi : stI ins = some (10, 2)) (hl : notLong a9 = true) (hn : Nat.ble 12 C.2.2.1 = true) (k : AW S C d Q X k1 k2 np (a0 :: a1 :: a2 :: a3 :: a4 :: a5 :: a6 :: a7 :: a8 :: a9 :: some (.long v) :: none :: r) st h) : AW S C d Q X k1 k2 pc (a0 :: a1 :: a2 :: a3 :: a4 :: a5 :: a6 :: a7 :: a8 :: a9 :: oo :: o2 :: r) (.long v :: st) h := a_stL hC hi (Nat.le_of_ble_eq_true hn) (by rw [show lsetL (a0 :: a1 :: a2 :: a3 :: a4 :: a5 :: a6 :: a7 :: a8 :: a9 :: oo :: o2 :: r) 10 v = a0 :: a1 :: a2 :: a3 :: a4 :: a5 :: a6 :: a7 :: a8 :: a9 :: some (.long v) :: none :: r by simp [lsetL, lset0, kill_id hl]]; exact k)
theorem a_i10 {a0 a1 a2 a3 a4 a5 a6 a7 a8 a9 : Option Value} {n : Int} {x : Int32} (hC : look C pc = some (.iinc 10 n, np, tgt, w)) (hl : notLong a9 = true) (hn : Nat.ble 11 C.2.2.1 = true) (k : AW S C d Q X k1 k2 np (a0 :: a1 :: a2 :: a3 :: a4 :: a5 :: a6 :: a7 :: a8 :: a9 :: some (.int (x + w)) :: r) st h) : AW S C d Q X k1 k2 pc (a0 :: a1 :: a2 :: a3 :: a4 :: a5 :: a6 :: a7 :: a8 :: a9 :: some (.int x) :: r) st h := a_inc hC rfl (Nat.le_of_ble_eq_true hn) (by rw [show lset (a0 :: a1 :: a2 :: a3 :: a4 :: a5 :: a6 :: a7 :: a8 :: a9 :: some (.int x) :: r) 10 (.int (x + w)) = a0 :: a1 :: a2 :: a3 :: a4 :: a5 :: a6 :: a7 :: a8 :: a9 :: some (.int (x + w)) :: r by simp [lset, kill_id hl]]; exact k)
end A5
end
section
/-! ===== the rules of AW: the heap ===== -/
def isRefTy : FieldType → Bool
  | .object _ => true
  | .array _ => true
  | _ => false
def isIntTy : FieldType → Bool
  | .int => true
  | .boolean => true
  | _ => false
/-- a class of places: its words stand in the tables, its names are apart, its types are the table's -/
def aOk (r : vw_C × (Nat → FieldType)) : Prop := (∀ w ∈ u_ws r.1.1 r.1.2.1 r.1.2.2, w ∈ lw_tbl ∧ goodWord w = true) ∧ (∀ a, a < r.1.2.2 → ∀ b, b < r.1.2.2 → a ≠ b → (r.1.2.1 a).2.1 ≠ (r.1.2.1 b).2.1) ∧ ∀ k, k < r.1.2.2 → parseFieldDescriptor (r.1.2.1 k).2.2.1 = some (r.2 k)
/-- the pool entry idx of class own is the field k of the class ci -/
def LF (own : String) (idx ci k : Nat) (r : vw_C × (Nat → FieldType)) : Prop := aC[ci]? = some r ∧ aOk r ∧ k < r.1.2.2 ∧ ∃ ref : String, (Cond.fieldLink own idx ref (r.1.2.1 k).2.1 (r.1.2.1 k).2.2.1 ∈ lw_tbl) ∧
  (ref = (r.1.2.1 k).1 ∨ Cond.sameField ref (r.1.2.1 k).1 (r.1.2.1 k).2.1 (r.1.2.1 k).2.2.1 ∈ lw_tbl)
def LFi (own : String) (idx ci k : Nat) : Prop := ∃ r, LF own idx ci k r ∧ isIntTy (r.2 k) = true
def LFr (own : String) (idx ci k : Nat) : Prop := ∃ r, LF own idx ci k r ∧ isRefTy (r.2 k) = true
theorem fv_int {G : aG} {I : Nat → Nat → Int32} {R : Nat → Nat → Nat} {p k : Nat} {ty : FieldType} (h : isIntTy ty = true) : fv G I R p ty k = .int (I p k) := by
  cases ty <;> first | rfl | (cases h; done)
theorem fv_ref {G : aG} {I : Nat → Nat → Int32} {R : Nat → Nat → Nat} {p k : Nat} {ty : FieldType} (h : isRefTy ty = true) : fv G I R p ty k = mv G (rv (R p k)) := by
  cases ty <;> first | rfl | (cases h; done)
theorem Rep.ob {G : aG} {h : aH} {H : Heap} {p ci : Nat} (hR : Rep G h H) (hK : h.1 p = (1, ci)) : obA G h.2.1 h.2.2.2.1 H p ci := by
  have q := hR.1 p
  unfold cellA at q
  rw [hK] at q
  exact q
theorem Rep.ar {G : aG} {h : aH} {H : Heap} {p t n : Nat} (hR : Rep G h H) (hK : h.1 p = (t + 2, n)) : arA G h.2.1 h.2.2.1 h.2.2.2.1 H p (t + 2) n := by
  have q := hR.1 p
  unfold cellA at q
  rw [hK] at q
  exact q
theorem cellA_congr {G : aG} {K : Nat → Nat × Nat} {I I' : Nat → Nat → Int32} {L L' : Nat → Nat → Int64} {R R' : Nat → Nat → Nat} {t t' : Nat} {H H' : Heap} {q : Nat} (hI : I' q = I q) (hL : L' q = L q) (hR : R' q = R q) (hH : (K q).1 ≠ 0 → H'[ad G q]? = H[ad G q]?) (h : cellA G (K, I, L, R, t) H q) : cellA G (K, I', L', R', t') H' q := by
  unfold cellA at h ⊢
  dsimp only at h ⊢
  rcases hk : K q with ⟨a, b⟩
  rw [hk] at h hH
  rcases a with _ | _ | a
  · trivial
  · obtain ⟨r, h1, cell, h2, h3, h4, h5⟩ := h
    refine ⟨r, h1, cell, (hH (by simp)).trans h2, h3, h4, fun k hk => ?_⟩
    rw [h5 k hk]
    cases r.2 k <;> simp [fv, hI, hR]
  · have e : (fun j => ev G I' L' R' (a + 2) q j) = fun j => ev G I L R (a + 2) q j := by
      funext j
      unfold ev
      rw [hI, hL, hR]
    show H'[ad G q]? = some (arrV _ _ _)
    rw [e, hH (by simp)]
    exact h
theorem ad_inj {G : aG} {p q : Nat} (hp : 200 ≤ p) (hq : 200 ≤ q) (h : ad G p = ad G q) : p = q := by
  rw [ad_dyn hp, ad_dyn hq] at h
  omega
theorem aA_ad {G : aG} {p : Nat} (hp : 200 ≤ p) : aA G (ad G p) := by
  rw [ad_dyn hp]
  exact Nat.le_add_right _ _
/-- one place is written -/
theorem Rep.set {G : aG} {K : Nat → Nat × Nat} {I I' : Nat → Nat → Int32} {L L' : Nat → Nat → Int64} {R R' : Nat → Nat → Nat} {t : Nat} {H H' : Heap} {p : Nat} (hR : Rep G (K, I, L, R, t) H) (hp : 200 ≤ p) (hI : ∀ q, q ≠ p → I' q = I q) (hL : ∀ q, q ≠ p → L' q = L q) (hRR : ∀ q, q ≠ p → R' q = R q) (hz : H'.size = H.size) (hH : ∀ q : Nat, q ≠ ad G p → H'[q]? = H[q]?) (h : cellA G (K, I', L', R', t) H' p) : Rep G (K, I', L', R', t) H' := by
  obtain ⟨h1, h2, h3, h4⟩ := hR
  refine ⟨fun q => ?_, h2, fun z => by rw [hz]; exact h3 z, by rw [hz]; exact h4⟩
  by_cases hq : q = p
  · subst hq
    exact h
  · exact cellA_congr (hI q hq) (hL q hq) (hRR q hq) (fun hk => hH _ fun e => hq (ad_inj (h2 q hk) hp e)) (h1 q)
section A6
variable {S : aS} {C : aM} {d : Nat} {Q : Option Value → aH → Prop} {X : String → aH → Prop} {k1 k2 pc np tgt : Nat} {w : Int32} {ls ls' : List (Option Value)} {st st' : List Value} {h : aH} {ins : Instr}
variable {K : Nat → Nat × Nat} {I : Nat → Nat → Int32} {L : Nat → Nat → Int64} {R : Nat → Nat → Nat} {t : Nat}
/-- more may be made -/
theorem a_room {j1 j2 : Nat} (h1 : j1 ≤ k1) (h2 : j2 ≤ k2) (k : AW S C d Q X j1 j2 pc ls st h) : AW S C d Q X k1 k2 pc ls st h := by
  intro p l e s m args below meth c H la locs cells slots mc ms G CC hS hL hR hF g1 g2
  exact k p l e s m args below meth c H la locs cells slots mc ms G CC hS hL hR hF (by omega) (by omega)
/-- what the tables say of a field -/
theorem lf_use {own : String} {idx ci k : Nat} {r : vw_C × (Nat → FieldType)} {G : aG} {s : State} {args : Array Value} (hf : LF own idx ci k r) (hS : SW S G s) :
    ∃ (ref : String) (cf : ClassId) (kf : Class) (fi : Nat) (f : Field), (Cond.fieldLink own idx ref (r.1.2.1 k).2.1 (r.1.2.1 k).2.2.1).before args s = true ∧ s.fieldFound? ref (r.1.2.1 k).2.1 (r.1.2.1 k).2.2.1 = some (cf, kf, fi, f) ∧ s.fieldFound? (r.1.2.1 k).1 (r.1.2.1 k).2.1 (r.1.2.1 k).2.2.1 = some (cf, kf, fi, f) ∧ f.isStatic = false ∧ f.slot = G.1.2 ci k := by
  obtain ⟨hc, ⟨hws, -, -⟩, hk, ref, hl, hsame⟩ := hf
  obtain ⟨hSl, hfc, kC, hkC, hkind⟩ := hS.1 ci r hc
  obtain ⟨cf, kf, fi, f, hi, hsl⟩ := hSl k hk
  have hts : ∀ w ∈ u_ws r.1.1 r.1.2.1 r.1.2.2, w.before args s = true := fun w hw => hS.2.2.1 w (hws w hw).1 (by rw [(hws w hw).2]; rfl) args
  refine ⟨ref, cf, kf, fi, f, hS.2.2.1 _ hl rfl args, ?_, hi, (u_facts hfc hkC (u_lays hts (fun w hw => hw) hk) hi).1, hsl⟩
  rcases hsame with rfl | hs
  · exact hi
  · exact u_same (hS.2.2.1 _ hs rfl args) _ hi
theorem a_get {idx ci k p : Nat} {r : vw_C × (Nat → FieldType)} {v : Value} (hC : look C pc = some (.getfield idx, np, tgt, w)) (hf : LF C.1.cls idx ci k r) (hK : h.1 p = (1, ci)) (hv : ∀ G : aG, fv G h.2.1 h.2.2.2.1 p (r.2 k) k = mv G v) (kk : AW S C d Q X k1 k2 np ls (v :: st) h) : AW S C d Q X k1 k2 pc ls (.ref p :: st) h := by
  intro p' l e s m args below meth c H la locs cells slots mc ms G CC hS hL hR hF h1 h2
  obtain ⟨hd, rfl, -⟩ := okd CC.2.2.2.2.2.2.2.2.2 hC rfl
  obtain ⟨ref, cf, kf, fi, f, hl, hi, -, hst, hsl⟩ := lf_use (args := args) hf hS
  obtain ⟨r', hr', cell, q1, q2, q3, q4⟩ := hR.ob hK
  cases hf.1.symm.trans hr'
  refine W.getf CC.1 CC.2.1 CC.2.2.2.2.2.1 hl hi hst q1 (by rw [q3]; exact fun z => by cases z) (v := mv G v) (by rw [hsl, q4 k hf.2.2.1, hv]) rfl rfl hd ?_
  exact kk p' l e s m args below meth c H la locs cells slots mc ms G CC hS hL hR hF h1 h2
theorem a_geti {idx ci k p : Nat} (hC : look C pc = some (.getfield idx, np, tgt, w)) (hf : LFi C.1.cls idx ci k) (hK : K p = (1, ci)) (kk : AW S C d Q X k1 k2 np ls (.int (I p k) :: st) (K, I, L, R, t)) : AW S C d Q X k1 k2 pc ls (.ref p :: st) (K, I, L, R, t) := by
  obtain ⟨r, hf, ht⟩ := hf
  exact a_get hC hf hK (fun G => fv_int ht) kk
theorem a_getr {idx ci k p : Nat} (hC : look C pc = some (.getfield idx, np, tgt, w)) (hf : LFr C.1.cls idx ci k) (hK : K p = (1, ci)) (kk : AW S C d Q X k1 k2 np ls (rv (R p k) :: st) (K, I, L, R, t)) : AW S C d Q X k1 k2 pc ls (.ref p :: st) (K, I, L, R, t) := by
  obtain ⟨r, hf, ht⟩ := hf
  exact a_get hC hf hK (fun G => fv_ref ht) kk
theorem a_getq {idx ci k p q : Nat} (hC : look C pc = some (.getfield idx, np, tgt, w)) (hf : LFr C.1.cls idx ci k) (hK : K p = (1, ci)) (hq : R p k = q + 1) (kk : AW S C d Q X k1 k2 np ls (.ref q :: st) (K, I, L, R, t)) : AW S C d Q X k1 k2 pc ls (.ref p :: st) (K, I, L, R, t) := by
  refine a_getr hC hf hK ?_
  rw [hq]
  exact kk
/-- a field is written: not final, or in the class's own constructor -/
theorem a_put {idx ci k p : Nat} {r : vw_C × (Nat → FieldType)} {v : Value} {I' : Nat → Nat → Int32} {R' : Nat → Nat → Nat} (hC : look C pc = some (.putfield idx, np, tgt, w)) (hf : LF C.1.cls idx ci k r) (hfin : (r.1.2.1 k).2.2.2 = false ∨ ((r.1.2.1 k).2.2.2 = true ∧ C.1.name = "<init>" ∧ (r.1.2.1 k).1 = C.1.cls)) (hK : K p = (1, ci)) (hn : ∀ G : aG, narrow (r.2 k) (mv G v) = mv G v) (hfit : ∀ G : aG, fits (r.2 k) (mv G v) = true)
    (hI : ∀ q, q ≠ p → I' q = I q) (hR' : ∀ q, q ≠ p → R' q = R q) (hj : ∀ j, j ≠ k → I' p j = I p j ∧ R' p j = R p j) (hv : ∀ G : aG, fv G I' R' p (r.2 k) k = mv G v)
    (kk : AW S C d Q X k1 k2 np ls st (K, I', L, R', t)) : AW S C d Q X k1 k2 pc ls (v :: .ref p :: st) (K, I, L, R, t) := by
  intro p' l e s m args below meth c H la locs cells slots mc ms G CC hS hL hR hF h1 h2
  obtain ⟨hd, rfl, -⟩ := okd CC.2.2.2.2.2.2.2.2.2 hC rfl
  obtain ⟨ref, cf, kf, fi, f, hl, hi, hi0, hst, hsl⟩ := lf_use (args := args) hf hS
  obtain ⟨r', hr', cell, q1, q2, q3, q4⟩ := hR.ob hK
  cases hf.1.symm.trans hr'
  have hp : 200 ≤ p := hR.2.1 p (by show (K p).1 ≠ 0; rw [hK]; simp)
  obtain ⟨hSl, hfc, kC, hkC, hkind⟩ := hS.1 ci r hf.1
  have hts : ∀ w ∈ u_ws r.1.1 r.1.2.1 r.1.2.2, w.before args s = true := fun w hw => hS.2.2.1 w (hf.2.1.1 w hw).1 (by rw [(hf.2.1.1 w hw).2]; rfl) args
  have hlay := u_lays hts (fun w hw => hw) hf.2.2.1
  have hd0 := hf.2.1.2.2 k hf.2.2.1
  have hap : ∀ a b, a < r.1.2.2 → b < r.1.2.2 → a ≠ b → G.1.2 ci a ≠ G.1.2 ci b := by
    intro a b ha hb hne
    obtain ⟨_, _, _, fa, hia, ea⟩ := hSl a ha
    obtain ⟨_, _, _, fb, hib, eb⟩ := hSl b hb
    rw [← ea, ← eb]
    refine u_apart (u_lays hts (fun w hw => hw) ha) (u_lays hts (fun w hw => hw) hb) hia hib ?_
    rw [(State.fieldFound?_type hia (hf.2.1.2.2 a ha)).1, (State.fieldFound?_type hib (hf.2.1.2.2 b hb)).1]
    exact hf.2.1.2.1 a ha b hb hne
  have fin : ∀ H' : Heap, H'[ad G p]? = some (cell.setSlot f.slot (mv G v)) → H'.size = H.size → (∀ q, q ≠ ad G p → H'[q]? = H[q]?) → Rep G (K, I', L, R', t) H' ∧ va_S (aA G) s.heap H' (locs ++ [⟨ad G p, f.slot⟩]) := by
    intro H' e1 e2 e3
    refine ⟨Rep.set hR hp hI (fun _ _ => rfl) hR' e2 e3 ?_, hF.put e2 e3 (aA_ad hp)⟩
    show cellA G (K, I', L, R', t) H' p
    unfold cellA
    dsimp only
    rw [hK]
    refine ⟨r, hf.1, _, e1, q2, q3, fun j hjn => ?_⟩
    rw [hsl]
    by_cases hjk : j = k
    · subst hjk
      rw [Cell.slots_setSlot_self _ (k2_hasslot (q4 j hjn)), hv]
    · rw [slot_ne _ _ (hap k j hf.2.2.1 hjn (Ne.symm hjk)), q4 j hjn]
      obtain ⟨z1, z2⟩ := hj j hjk
      show some (fv G I R p (r.2 j) j) = some (fv G I' R' p (r.2 j) j)
      cases r.2 j <;> simp [fv, z1, z2]
  have hlt : f.slot < cell.slots.size := by rw [hsl]; exact k2_hasslot (q4 k hf.2.2.1)
  have done : ∀ H' : Heap, H'[ad G p]? = some (cell.setSlot f.slot (mv G v)) → H'.size = H.size → (∀ q, q ≠ ad G p → H'[q]? = H[q]?) → W p' l e (rmD d mc ms) s m args below meth c H' (locs ++ [⟨ad G p, f.slot⟩]) cells slots (vx_MQ below (QcM G Q) (XcM G X) args s mc ms (aA G)) (F0 m (pc + 3) la (st.map (mv G))) := by
    intro H' e1 e2 e3
    obtain ⟨z1, z2⟩ := fin H' e1 e2 e3
    exact kk p' l e s m args below meth c H' la _ cells slots mc ms G CC hS hL z1 z2 h1 h2
  rcases hfin with hfin | ⟨hfin, hin, hdecl⟩
  · have hlay' := hts _ (u_in_lay hf.2.2.1)
    unfold u_lay at hlay'
    rw [if_neg (by rw [hfin]; decide)] at hlay'
    have h6 := u_store hfc hkC hkind hlay' hi0 hd0 (hn G) (hfit G)
    exact W.putK CC.1 CC.2.1 (f := f) ⟨CC.2.2.2.2.2.1, hl, ⟨_, _, _, hi⟩, hst⟩ (by rw [q2]; exact h6) q1 q3 hlt rfl rfl hd done
  · have hcf : m.cls = cf := by
      have h8 := hts _ (u_in_lay hf.2.2.1)
      unfold u_lay at h8
      rw [if_pos hfin] at h8
      obtain ⟨_, _, c', _, _, _, -, -, hf', -, -, -, hown2, -⟩ := Cond.laysFinal_spec h8
      have e1 : c' = cf := by have := hi0.symm.trans hf'; simp at this; exact this.1.symm
      rw [hdecl] at hown2
      rw [← e1]; exact Option.some.inj (CC.2.2.2.2.2.1.symm.trans hown2)
    exact W.putFinK CC.1 CC.2.1 CC.2.2.2.2.2.1 hl hi hst hcf (CC.2.2.2.2.2.2.1.trans hin) (by rw [q2]; exact u_fits hfc hkC hkind hlay hi0 hd0 (hn G) (hfit G)) q1 q3 hlt rfl rfl hd done
end A6
end
section
/-! ===== the rules of AW: fields by kind, arrays, answers ===== -/
def LFp (own nm : String) (idx ci k : Nat) (r : vw_C × (Nat → FieldType)) : Prop := LF own idx ci k r ∧ ((r.1.2.1 k).2.2.2 = false ∨ ((r.1.2.1 k).2.2.2 = true ∧ nm = "<init>" ∧ (r.1.2.1 k).1 = own))
def LPi (own nm : String) (idx ci k : Nat) : Prop := ∃ r, LFp own nm idx ci k r ∧ r.2 k = .int
def LPz (own nm : String) (idx ci k : Nat) : Prop := ∃ r, LFp own nm idx ci k r ∧ r.2 k = .boolean
def LPr (own nm : String) (idx ci k : Nat) : Prop := ∃ r, LFp own nm idx ci k r ∧ isRefTy (r.2 k) = true
theorem nar_ref {ty : FieldType} (h : isRefTy ty = true) (v : Value) (hv : v = .null ∨ ∃ a, v = .ref a) : narrow ty v = v ∧ fits ty v = true := by
  rcases hv with rfl | ⟨a, rfl⟩ <;> cases ty <;> first | (cases h; done) | exact ⟨rfl, rfl⟩
theorem mv_rv_or (G : aG) (r : Nat) : mv G (rv r) = .null ∨ ∃ a, mv G (rv r) = .ref a := by cases r <;> first | exact Or.inl rfl | exact Or.inr ⟨_, rfl⟩
section A7
variable {S : aS} {C : aM} {d : Nat} {Q : Option Value → aH → Prop} {X : String → aH → Prop} {k1 k2 pc np tgt : Nat} {w : Int32} {ls ls' : List (Option Value)} {st st' : List Value} {h : aH} {ins : Instr}
variable {K : Nat → Nat × Nat} {I : Nat → Nat → Int32} {L : Nat → Nat → Int64} {R : Nat → Nat → Nat} {t : Nat}
theorem a_puti {idx ci k p : Nat} {x : Int32} (hC : look C pc = some (.putfield idx, np, tgt, w)) (hf : LPi C.1.cls C.1.name idx ci k) (hK : K p = (1, ci)) (kk : AW S C d Q X k1 k2 np ls st (K, up2 I p k x, L, R, t)) : AW S C d Q X k1 k2 pc ls (.int x :: .ref p :: st) (K, I, L, R, t) := by
  obtain ⟨r, ⟨hf, hfin⟩, ht⟩ := hf
  refine a_put hC hf hfin hK (fun G => ?_) (fun G => ?_) (fun q hq => up2_row hq) (fun _ _ => rfl) (fun j hj => ⟨up2_ne (Or.inr hj), rfl⟩) (fun G => ?_) kk
  · rw [ht]; rfl
  · rw [ht]; rfl
  · rw [ht]; show Value.int (up2 I p k x p k) = _; rw [up2_at]; rfl
theorem a_putz {idx ci k p : Nat} {x : Int32} (hC : look C pc = some (.putfield idx, np, tgt, w)) (hf : LPz C.1.cls C.1.name idx ci k) (hx : narrow .boolean (.int x) = .int x ∧ fits .boolean (.int x) = true) (hK : K p = (1, ci)) (kk : AW S C d Q X k1 k2 np ls st (K, up2 I p k x, L, R, t)) : AW S C d Q X k1 k2 pc ls (.int x :: .ref p :: st) (K, I, L, R, t) := by
  obtain ⟨r, ⟨hf, hfin⟩, ht⟩ := hf
  refine a_put hC hf hfin hK (fun G => ?_) (fun G => ?_) (fun q hq => up2_row hq) (fun _ _ => rfl) (fun j hj => ⟨up2_ne (Or.inr hj), rfl⟩) (fun G => ?_) kk
  · rw [ht]; exact hx.1
  · rw [ht]; exact hx.2
  · rw [ht]; show Value.int (up2 I p k x p k) = _; rw [up2_at]; rfl
theorem a_putr {idx ci k p q : Nat} (hC : look C pc = some (.putfield idx, np, tgt, w)) (hf : LPr C.1.cls C.1.name idx ci k) (hK : K p = (1, ci)) (kk : AW S C d Q X k1 k2 np ls st (K, I, L, up2 R p k q, t)) : AW S C d Q X k1 k2 pc ls (rv q :: .ref p :: st) (K, I, L, R, t) := by
  obtain ⟨r, ⟨hf, hfin⟩, ht⟩ := hf
  refine a_put hC hf hfin hK (fun G => (nar_ref ht _ (mv_rv_or G q)).1) (fun G => (nar_ref ht _ (mv_rv_or G q)).2) (fun _ _ => rfl) (fun q hq => up2_row hq) (fun j hj => ⟨rfl, up2_ne (Or.inr hj)⟩) (fun G => ?_) kk
  rw [fv_ref ht, up2_at]
theorem a_putq {idx ci k p q : Nat} (hC : look C pc = some (.putfield idx, np, tgt, w)) (hf : LPr C.1.cls C.1.name idx ci k) (hK : K p = (1, ci)) (kk : AW S C d Q X k1 k2 np ls st (K, I, L, up2 R p k (q + 1), t)) : AW S C d Q X k1 k2 pc ls (.ref q :: .ref p :: st) (K, I, L, R, t) := a_putr (q := q + 1) hC hf hK kk
/-! arrays -/
theorem arrV_kn (c : ClassId) (n : Nat) (f : Nat → Value) : (arrV c n f).vm ≠ .unknown := by
  unfold arrV
  simp
theorem arrV_ks (c : ClassId) (n : Nat) (f : Nat → Value) : ∀ q, (arrV c n f).vm ≠ .statics q := by
  intro q
  unfold arrV
  simp
def inI (i : Int32) (n : Nat) : Prop := ¬ i < 0 ∧ i.toNatClampNeg < n
theorem inI_not {i : Int32} {n : Nat} (h : inI i n) : ¬ (i < 0 ∨ n ≤ i.toNatClampNeg) := by
  rintro (q | q)
  · exact h.1 q
  · have := h.2
    omega
theorem a_len {p n tt : Nat} {x : Int32} (hC : look C pc = some (.arraylength, np, tgt, w)) (hK : K p = (tt + 2, n)) (htt : Nat.blt tt 4 = true) (hx : Int32.ofNat n = x) (kk : AW S C d Q X k1 k2 np ls (.int x :: st) (K, I, L, R, t)) : AW S C d Q X k1 k2 pc ls (.ref p :: st) (K, I, L, R, t) := by
  intro p' l e s m args below meth c H la locs cells slots mc ms G CC hS hL hR hF h1 h2
  obtain ⟨hd, rfl, -⟩ := okd CC.2.2.2.2.2.2.2.2.2 hC rfl
  have hA := hR.ar hK
  refine W.alen CC.1 CC.2.1 hA ((hS.2.1 tt (Nat.le_of_ble_eq_true htt)).1 _ _) (n := x) ?_ rfl rfl hd ?_
  · rw [arrV_size, ← hx]
  · exact kk p' l e s m args below meth c H la locs cells slots mc ms G CC hS hL hR hF h1 h2
theorem a_iald {p n : Nat} {i : Int32} (hC : look C pc = some (.iaload, np, tgt, w)) (hK : K p = (2, n)) (hi : inI i n) (kk : AW S C d Q X k1 k2 np ls (.int (I p i.toNatClampNeg) :: st) (K, I, L, R, t)) : AW S C d Q X k1 k2 pc ls (.int i :: .ref p :: st) (K, I, L, R, t) := by
  intro p' l e s m args below meth c H la locs cells slots mc ms G CC hS hL hR hF h1 h2
  obtain ⟨hd, rfl, -⟩ := okd CC.2.2.2.2.2.2.2.2.2 hC rfl
  have hA := hR.ar (t := 0) hK
  exact W.iald CC.1 CC.2.1 hA ((hS.2.1 0 (by decide)).1 _ _) (arrV_kn _ _ _) (by rw [arrV_size]; exact inI_not hi) (arrV_read _ _ hi.2) rfl rfl hd (kk p' l e s m args below meth c H la locs cells slots mc ms G CC hS hL hR hF h1 h2)
theorem a_bald {p n : Nat} {i : Int32} (hC : look C pc = some (.baload, np, tgt, w)) (hK : K p = (3, n)) (hi : inI i n) (kk : AW S C d Q X k1 k2 np ls (.int (I p i.toNatClampNeg) :: st) (K, I, L, R, t)) : AW S C d Q X k1 k2 pc ls (.int i :: .ref p :: st) (K, I, L, R, t) := by
  intro p' l e s m args below meth c H la locs cells slots mc ms G CC hS hL hR hF h1 h2
  obtain ⟨hd, rfl, -⟩ := okd CC.2.2.2.2.2.2.2.2.2 hC rfl
  have hA := hR.ar (t := 1) hK
  exact W.bald CC.1 CC.2.1 hA ((hS.2.1 1 (by decide)).1 _ _) (arrV_kn _ _ _) (by rw [arrV_size]; exact inI_not hi) (arrV_read _ _ hi.2) rfl rfl hd (kk p' l e s m args below meth c H la locs cells slots mc ms G CC hS hL hR hF h1 h2)
theorem a_lald {p n : Nat} {i : Int32} (hC : look C pc = some (.laload, np, tgt, w)) (hK : K p = (4, n)) (hi : inI i n) (kk : AW S C d Q X k1 k2 np ls (.long (L p i.toNatClampNeg) :: st) (K, I, L, R, t)) : AW S C d Q X k1 k2 pc ls (.int i :: .ref p :: st) (K, I, L, R, t) := by
  intro p' l e s m args below meth c H la locs cells slots mc ms G CC hS hL hR hF h1 h2
  obtain ⟨hd, rfl, -⟩ := okd CC.2.2.2.2.2.2.2.2.2 hC rfl
  have hA := hR.ar (t := 2) hK
  exact W.lald CC.1 CC.2.1 hA ((hS.2.1 2 (by decide)).1 _ _) (arrV_kn _ _ _) (by rw [arrV_size]; exact inI_not hi) (arrV_read _ _ hi.2) rfl rfl hd (kk p' l e s m args below meth c H la locs cells slots mc ms G CC hS hL hR hF h1 h2)
theorem a_aald {p n q : Nat} {i : Int32} (hC : look C pc = some (.aaload, np, tgt, w)) (hK : K p = (5, n)) (hi : inI i n) (hq : R p i.toNatClampNeg = q) (kk : AW S C d Q X k1 k2 np ls (rv q :: st) (K, I, L, R, t)) : AW S C d Q X k1 k2 pc ls (.int i :: .ref p :: st) (K, I, L, R, t) := by
  intro p' l e s m args below meth c H la locs cells slots mc ms G CC hS hL hR hF h1 h2
  obtain ⟨hd, rfl, -⟩ := okd CC.2.2.2.2.2.2.2.2.2 hC rfl
  have hA := hR.ar (t := 3) hK
  refine W.aald CC.1 CC.2.1 hA ((hS.2.1 3 (by decide)).1 _ _) rfl (arrV_kn _ _ _) (by rw [arrV_size]; exact inI_not hi) (arrV_read _ _ hi.2) rfl rfl hd ?_
  show W p' l e _ s m args below meth c H locs cells slots _ (F0 m (pc + 1) la (mv G (rv (R p i.toNatClampNeg)) :: st.map (mv G)))
  rw [hq]
  exact kk p' l e s m args below meth c H la locs cells slots mc ms G CC hS hL hR hF h1 h2
theorem updV_ev2 {G : aG} {I : Nat → Nat → Int32} {L : Nat → Nat → Int64} {R : Nat → Nat → Nat} {p k : Nat} {x : Int32} : updV (fun j => ev G I L R 2 p j) k (.int x) = fun j => ev G (up2 I p k x) L R 2 p j := by
  funext j
  by_cases h : j = k
  · subst h; simp [updV, ev, up2]
  · simp [updV, ev, up2, h]
theorem updV_ev3 {G : aG} {I : Nat → Nat → Int32} {L : Nat → Nat → Int64} {R : Nat → Nat → Nat} {p k : Nat} {x : Int32} : updV (fun j => ev G I L R 3 p j) k (.int x) = fun j => ev G (up2 I p k x) L R 3 p j := by
  funext j
  by_cases h : j = k
  · subst h; simp [updV, ev, up2]
  · simp [updV, ev, up2, h]
theorem updV_ev4 {G : aG} {I : Nat → Nat → Int32} {L : Nat → Nat → Int64} {R : Nat → Nat → Nat} {p k : Nat} {x : Int64} : updV (fun j => ev G I L R 4 p j) k (.long x) = fun j => ev G I (up2 L p k x) R 4 p j := by
  funext j
  by_cases h : j = k
  · subst h; simp [updV, ev, up2]
  · simp [updV, ev, up2, h]
theorem updV_ev5 {G : aG} {I : Nat → Nat → Int32} {L : Nat → Nat → Int64} {R : Nat → Nat → Nat} {p k q : Nat} : updV (fun j => ev G I L R 5 p j) k (mv G (rv q)) = fun j => ev G I L (up2 R p k q) 5 p j := by
  funext j
  by_cases h : j = k
  · subst h; simp [updV, ev, up2]
  · simp [updV, ev, up2, h]
theorem a_iast {p n : Nat} {i x : Int32} (hC : look C pc = some (.iastore, np, tgt, w)) (hK : K p = (2, n)) (hi : inI i n) (kk : AW S C d Q X k1 k2 np ls st (K, up2 I p i.toNatClampNeg x, L, R, t)) : AW S C d Q X k1 k2 pc ls (.int x :: .int i :: .ref p :: st) (K, I, L, R, t) := by
  intro p' l e s m args below meth c H la locs cells slots mc ms G CC hS hL hR hF h1 h2
  obtain ⟨hd, rfl, -⟩ := okd CC.2.2.2.2.2.2.2.2.2 hC rfl
  have hA := hR.ar (t := 0) hK
  have hp : 200 ≤ p := hR.2.1 p (by show (K p).1 ≠ 0; rw [hK]; simp)
  refine W.iast CC.1 CC.2.1 hA ((hS.2.1 0 (by decide)).1 _ _) (arrV_kn _ _ _) (by rw [arrV_size]; exact inI_not hi) rfl rfl hd (fun H' e1 e2 e3 => ?_)
  refine kk p' l e s m args below meth c H' la _ cells slots mc ms G CC hS hL (Rep.set hR hp (fun q hq => up2_row hq) (fun _ _ => rfl) (fun _ _ => rfl) e2 e3 ?_) (hF.put e2 e3 (aA_ad hp)) h1 h2
  show cellA G (K, up2 I p i.toNatClampNeg x, L, R, t) H' p
  unfold cellA
  dsimp only
  rw [hK]
  show H'[ad G p]? = some (arrV _ n _)
  rw [e1, arrV_store, updV_ev2]
theorem a_bast {p n : Nat} {i x : Int32} (hC : look C pc = some (.bastore, np, tgt, w)) (hK : K p = (3, n)) (hi : inI i n) (hx : x.toInt8.toInt32 = x) (kk : AW S C d Q X k1 k2 np ls st (K, up2 I p i.toNatClampNeg x, L, R, t)) : AW S C d Q X k1 k2 pc ls (.int x :: .int i :: .ref p :: st) (K, I, L, R, t) := by
  intro p' l e s m args below meth c H la locs cells slots mc ms G CC hS hL hR hF h1 h2
  obtain ⟨hd, rfl, -⟩ := okd CC.2.2.2.2.2.2.2.2.2 hC rfl
  have hA := hR.ar (t := 1) hK
  have hp : 200 ≤ p := hR.2.1 p (by show (K p).1 ≠ 0; rw [hK]; simp)
  have hnx : narrow .byte (.int x) = .int x := by show Value.int x.toInt8.toInt32 = _; rw [hx]
  refine W.bast CC.1 CC.2.1 hA ((hS.2.1 1 (by decide)).1 _ _) (arrV_kn _ _ _) (by rw [arrV_size]; exact inI_not hi) rfl rfl hd (fun H' e1 e2 e3 => ?_)
  refine kk p' l e s m args below meth c H' la _ cells slots mc ms G CC hS hL (Rep.set hR hp (fun q hq => up2_row hq) (fun _ _ => rfl) (fun _ _ => rfl) e2 e3 ?_) (hF.put e2 e3 (aA_ad hp)) h1 h2
  show cellA G (K, up2 I p i.toNatClampNeg x, L, R, t) H' p
  unfold cellA
  dsimp only
  rw [hK]
  show H'[ad G p]? = some (arrV _ n _)
  rw [e1, hnx, arrV_store, updV_ev3]
theorem a_last {p n : Nat} {i : Int32} {x : Int64} (hC : look C pc = some (.lastore, np, tgt, w)) (hK : K p = (4, n)) (hi : inI i n) (kk : AW S C d Q X k1 k2 np ls st (K, I, up2 L p i.toNatClampNeg x, R, t)) : AW S C d Q X k1 k2 pc ls (.long x :: .int i :: .ref p :: st) (K, I, L, R, t) := by
  intro p' l e s m args below meth c H la locs cells slots mc ms G CC hS hL hR hF h1 h2
  obtain ⟨hd, rfl, -⟩ := okd CC.2.2.2.2.2.2.2.2.2 hC rfl
  have hA := hR.ar (t := 2) hK
  have hp : 200 ≤ p := hR.2.1 p (by show (K p).1 ≠ 0; rw [hK]; simp)
  refine W.last CC.1 CC.2.1 hA ((hS.2.1 2 (by decide)).1 _ _) (arrV_kn _ _ _) (by rw [arrV_size]; exact inI_not hi) rfl rfl hd (fun H' e1 e2 e3 => ?_)
  refine kk p' l e s m args below meth c H' la _ cells slots mc ms G CC hS hL (Rep.set hR hp (fun _ _ => rfl) (fun q hq => up2_row hq) (fun _ _ => rfl) e2 e3 ?_) (hF.put e2 e3 (aA_ad hp)) h1 h2
  show cellA G (K, I, up2 L p i.toNatClampNeg x, R, t) H' p
  unfold cellA
  dsimp only
  rw [hK]
  show H'[ad G p]? = some (arrV _ n _)
  rw [e1, arrV_store, updV_ev4]
/-- an array of streets takes a street -/
theorem a_aast {p n q : Nat} {i : Int32} (hC : look C pc = some (.aastore, np, tgt, w)) (hK : K p = (5, n)) (hKq : K q = (1, 5)) (hi : inI i n) (kk : AW S C d Q X k1 k2 np ls st (K, I, L, up2 R p i.toNatClampNeg (q + 1), t)) : AW S C d Q X k1 k2 pc ls (.ref q :: .int i :: .ref p :: st) (K, I, L, R, t) := by
  intro p' l e s m args below meth c H la locs cells slots mc ms G CC hS hL hR hF h1 h2
  obtain ⟨hd, rfl, -⟩ := okd CC.2.2.2.2.2.2.2.2.2 hC rfl
  have hA := hR.ar (t := 3) hK
  have hp : 200 ≤ p := hR.2.1 p (by show (K p).1 ≠ 0; rw [hK]; simp)
  obtain ⟨r, hr, cell, q1, q2, q3, q4⟩ := hR.ob hKq
  obtain ⟨-, hfc, kC, hkC, -⟩ := hS.1 5 r hr
  obtain ⟨kA, comp, a1, a2, a3, a4⟩ := (hS.2.1 3 (by decide)).2
  have hcc : comp = G.1.1 5 := by
    cases hr
    exact Option.some.inj (a3.symm.trans hfc)
  subst hcc
  refine W.aast CC.1 CC.2.1 hA (arrV_ks _ _ _) (arrV_kn _ _ _) a1 a2 rfl hkC ⟨hi.1, by rw [arrV_size]; exact hi.2⟩ q1 (fun z => by rw [q3]; simp) (by rw [q2]; exact hkC) (by rw [q2]; exact va_asg _ _) rfl rfl hd (fun H' e1 e2 e3 => ?_)
  refine kk p' l e s m args below meth c H' la _ cells slots mc ms G CC hS hL (Rep.set hR hp (fun _ _ => rfl) (fun _ _ => rfl) (fun q hq => up2_row hq) e2 e3 ?_) (hF.put e2 e3 (aA_ad hp)) h1 h2
  show cellA G (K, I, L, up2 R p i.toNatClampNeg (q + 1), t) H' p
  unfold cellA
  dsimp only
  rw [hK]
  show H'[ad G p]? = some (arrV _ n _)
  rw [e1, arrV_store, ← updV_ev5]
  rfl
/-! answers -/
theorem a_iret {x : Int32} (hC : look C pc = some (.ireturn, np, tgt, w)) (hr : C.2.2.2.1 = some .int) (hQ : Q (some (.int x)) h) : AW S C d Q X k1 k2 pc ls [.int x] h := by
  intro p' l e s m args below meth c H la locs cells slots mc ms G CC hS hL hR hF h1 h2
  obtain ⟨hd, rfl, -⟩ := okd CC.2.2.2.2.2.2.2.2.2 hC rfl
  have hlk := CC.2.2.2.1
  refine vx_ret (W.widen (k := mc) (n := ms) (by omega) (by omega) (W.iret CC.1 CC.2.1 (CC.2.2.1.trans hr) (fun t ht hW => ⟨some (.int x), h, rfl, hQ, by rw [ht]; exact hR, hF.F ht⟩) hF.2.2 hd hlk))
theorem a_zret {x : Int32} (hC : look C pc = some (.ireturn, np, tgt, w)) (hr : C.2.2.2.1 = some .boolean) (hx : narrow .boolean (.int x) = .int x) (hQ : Q (some (.int x)) h) : AW S C d Q X k1 k2 pc ls [.int x] h := by
  intro p' l e s m args below meth c H la locs cells slots mc ms G CC hS hL hR hF h1 h2
  obtain ⟨hd, rfl, -⟩ := okd CC.2.2.2.2.2.2.2.2.2 hC rfl
  have hlk := CC.2.2.2.1
  refine vx_ret (W.widen (k := mc) (n := ms) (by omega) (by omega) (W.zret CC.1 CC.2.1 (CC.2.2.1.trans hr) hx (fun t ht hW => ⟨some (.int x), h, rfl, hQ, by rw [ht]; exact hR, hF.F ht⟩) hF.2.2 hd hlk))
theorem a_cret {x : Int32} (hC : look C pc = some (.ireturn, np, tgt, w)) (hr : C.2.2.2.1 = some .char) (hx : narrow .char (.int x) = .int x) (hQ : Q (some (.int x)) h) : AW S C d Q X k1 k2 pc ls [.int x] h := by
  intro p' l e s m args below meth c H la locs cells slots mc ms G CC hS hL hR hF h1 h2
  obtain ⟨hd, rfl, -⟩ := okd CC.2.2.2.2.2.2.2.2.2 hC rfl
  have hlk := CC.2.2.2.1
  refine vx_ret (W.widen (k := mc) (n := ms) (by omega) (by omega) (W.zret CC.1 CC.2.1 (CC.2.2.1.trans hr) hx (fun t ht hW => ⟨some (.int x), h, rfl, hQ, by rw [ht]; exact hR, hF.F ht⟩) hF.2.2 hd hlk))
theorem a_lret {x : Int64} (hC : look C pc = some (.lreturn, np, tgt, w)) (hr : C.2.2.2.1 = some .long) (hQ : Q (some (.long x)) h) : AW S C d Q X k1 k2 pc ls [.long x] h := by
  intro p' l e s m args below meth c H la locs cells slots mc ms G CC hS hL hR hF h1 h2
  obtain ⟨hd, rfl, -⟩ := okd CC.2.2.2.2.2.2.2.2.2 hC rfl
  have hlk := CC.2.2.2.1
  refine vx_ret (W.widen (k := mc) (n := ms) (by omega) (by omega) (W.lret CC.1 CC.2.1 (CC.2.2.1.trans hr) (fun t ht hW => ⟨some (.long x), h, rfl, hQ, by rw [ht]; exact hR, hF.F ht⟩) hF.2.2 hd hlk))
theorem a_vret (hC : look C pc = some (.return_, np, tgt, w)) (hr : C.2.2.2.1 = none) (hQ : Q none h) : AW S C d Q X k1 k2 pc ls [] h := by
  intro p' l e s m args below meth c H la locs cells slots mc ms G CC hS hL hR hF h1 h2
  obtain ⟨hd, rfl, -⟩ := okd CC.2.2.2.2.2.2.2.2.2 hC rfl
  have hlk := CC.2.2.2.1
  refine vx_ret (W.widen (k := mc) (n := ms) (by omega) (by omega) (W.vret CC.1 CC.2.1 (CC.2.2.1.trans hr) (fun t ht hW => ⟨none, h, rfl, hQ, by rw [ht]; exact hR, hF.F ht⟩) hF.2.2 hd hlk))
theorem a_aret {q : Nat} {rt : FieldType} (hC : look C pc = some (.areturn, np, tgt, w)) (hr : C.2.2.2.1 = some rt) (hrt : isRefTy rt = true) (hQ : Q (some (rv q)) h) : AW S C d Q X k1 k2 pc ls [rv q] h := by
  intro p' l e s m args below meth c H la locs cells slots mc ms G CC hS hL hR hF h1 h2
  obtain ⟨hd, rfl, -⟩ := okd CC.2.2.2.2.2.2.2.2.2 hC rfl
  have hlk := CC.2.2.2.1
  refine vx_ret (W.widen (k := mc) (n := ms) (by omega) (by omega) (W.aret CC.1 CC.2.1 (CC.2.2.1.trans hr) ?_ (mv_rv_or G q) (fun t ht hW => ⟨some (rv q), h, rfl, hQ, by rw [ht]; exact hR, hF.F ht⟩) hF.2.2 hd hlk))
  cases rt <;> first | (cases hrt; done) | exact Or.inl ⟨_, rfl⟩ | exact Or.inr ⟨_, rfl⟩
end A7
end
section
/-! ===== the rules of AW: a method's contract, calls ===== -/
theorem Rep.frames {G : aG} {h : aH} {U : State} (a : Array Value) (g : JFrame) (mk : MethodId) (hR : Rep G h U.heap) : Rep G h (U.calling g mk a).heap := hR
theorem SW.frames {S : aS} {G : aG} {U : State} (a : Array Value) (g : JFrame) (mk : MethodId) (h : SW S G U) : SW S G (U.calling g mk a) := SW.go (U := U.calling g mk a) (State.WarmedH.refl U) (fun _ _ _ => rfl) h
theorem PcM.blind {S : aS} {G : aG} {args : List Value} {h : aH} : FrameBlind (PcM S G args h) := fun a U g mk q => ⟨q.1, Rep.frames a g mk q.2.1, SW.frames a g mk q.2.2⟩
def entL (args : List Value) (n : Nat) : List (Option Value) := args.map some ++ List.replicate (n - args.length) none
theorem lg_app {l r : List (Option Value)} {i : Nat} {v : Value} (h : lg (l ++ r) i = some v) (hr : ∀ j, lg r j = none) : lg l i = some v := by
  induction l generalizing i with
  | nil => rw [List.nil_append, hr] at h; cases h
  | cons a l ih =>
    rcases i with _ | i
    · exact h
    · exact ih h
theorem lg_none (n : Nat) : ∀ j, lg (List.replicate n (none : Option Value)) j = none := by
  induction n with
  | zero => intro j; rfl
  | succ n ih =>
    intro j
    rw [List.replicate_succ]
    rcases j with _ | j
    · rfl
    · exact ih j
theorem lg_args {G : aG} {args : List Value} (hc : ∀ v ∈ args, v.category = 1) {i n : Nat} {v : Value} (h : lg (args.map some) i = some v) : (n + i, mv G v) ∈ lv_args n (args.map (mv G)) := by
  induction args generalizing i n with
  | nil => simp [lg] at h
  | cons a r ih =>
    have h1 : (mv G a).category = 1 := (mv_cat G a).trans (hc a List.mem_cons_self)
    simp only [List.map_cons, lv_args]
    rw [if_neg (by omega)]
    rcases i with _ | i
    · simp only [List.map_cons, lg] at h
      cases h
      exact List.mem_cons_self
    · have := ih (fun v hv => hc v (List.mem_cons_of_mem _ hv)) (n := n + 1) h
      rw [show n + 1 + i = n + (i + 1) by omega] at this
      exact List.mem_cons_of_mem _ this
theorem sl_len {G : aG} {args : List Value} (hc : ∀ v ∈ args, v.category = 1) : (lg_sl (args.map (mv G))).length = args.length := by
  induction args with
  | nil => rfl
  | cons a r ih =>
    have h1 : ¬ (mv G a).category = 2 := by rw [mv_cat, hc a List.mem_cons_self]; decide
    have := ih (fun v hv => hc v (List.mem_cons_of_mem _ hv))
    unfold lg_sl at this ⊢
    rw [List.map_cons, List.flatMap_cons, if_neg h1]
    simp [this]
def okM (C : aM) : Bool := plainName C.1.cls && C.2.2.2.2.2.all (fun r => r.all (okE C))
/-- THE CONTRACT OUT OF THE JUDGEMENT -/
theorem Sp_of {S : aS} {C : aM} {d k1 k2 : Nat} {args : List Value} {h : aH} {Q : Option Value → aH → Prop} {X : String → aH → Prop} (hO : okM C = true) (hc : args.all (fun v => v.category == 1) = true) (hn : Nat.ble args.length C.2.2.1 = true)
    (k : AW S C d Q X k1 k2 0 (entL args C.2.2.1) [] h) : Sp S C d k1 k2 args h Q X := by
  intro l G hl
  obtain ⟨hpl, hok⟩ : plainName C.1.cls = true ∧ C.2.2.2.2.2.all (fun r => r.all (okE C)) = true := by
    simpa [okM, Bool.and_eq_true] using hO
  have hc' : ∀ v ∈ args, v.category = 1 := fun v hv => by simpa using List.all_eq_true.mp hc v hv
  have hn' := Nat.le_of_ble_eq_true hn
  have body : ∀ (p : Program) (e : Env) (s : State) (m : MethodId) (av : Array Value) (below : List Frame) (meth : Method) (c : Code) (s₁ : State), BodyLoose p l C.1 (headSpec [mW C] (rmD d k1 k2)) C.2.1 C.2.2.1 C.2.2.2.1 e s m av below meth c s₁ → c.maxLocals = C.2.2.1 → c.exceptionTable.toList = tableOf C.2.2.2.2.1 → PcM S G args h av s →
      W p l e (headSpec [mW C] (rmD d k1 k2)).room s m av below meth c s.heap [] 0 0 (vx_MQ below (QcM G Q) (XcM G X) av s k1 k2 (aA G)) (entryFrame m av C.2.2.1) := by
    intro p e s m av below meth c s₁ B hml htab hP
    obtain ⟨rfl, hR, hS⟩ := hP
    rw [lg_entry_eq]
    have hl0 := lv_entry (args.map (mv G)) (n := C.2.2.1) (by rw [sl_len hc']; exact hn')
    refine k p l e s m _ below meth c s.heap _ [] 0 0 k1 k2 G ⟨B.exec, B.bytes, B.returns, B.notSynchronized, hml, findClass_of_methodNamed B.named, (name_of_methodNamed B.named B.method).1, hl, htab, okM_of hok⟩ hS ⟨hl0.1, hl0.2.1, fun i v hi => ?_⟩ hR va_S.rf (by omega) (by omega)
    have h1 := lg_app hi (lg_none _)
    have h2 := hl0.2.2 _ (lg_args (n := 0) hc' h1)
    simpa using h2
  by_cases hh : C.2.2.2.2.1 = []
  · refine vx_ofW (cc := C.2.1) (maxL := C.2.2.1) (ret := C.2.2.2.1) (ws' := []) hpl (by unfold mW; rw [hh]) ?_
    intro p e s m av below meth c s₁ B hml ht hP
    refine body p e s m av below meth c s₁ B hml ?_ hP
    rw [hh]
    exact List.eq_nil_iff_forall_not_mem.mpr ht
  · have hw : mW C = .codeWith C.1 C.2.1 C.2.2.1 C.2.2.2.1 C.2.2.2.2.1 := by
      unfold mW
      split
      · next z => exact absurd z hh
      · rfl
    refine vx_ofWH (cc := C.2.1) (maxL := C.2.2.1) (ret := C.2.2.2.1) (hh := C.2.2.2.2.1) (ws' := []) hpl (by rw [hw]) ?_
    intro p e s m av below meth c s₁ B hml hP
    exact body p e s m av below meth c s₁ B hml (vx_table (x := C.1) B (atoms_spec (ws := [mW C]) B.pre _ (by rw [hw]; exact List.mem_cons_self))) hP
theorem Sp.mono {S : aS} {C : aM} {d k1 k2 : Nat} {args : List Value} {h : aH} {Q Q' : Option Value → aH → Prop} {X X' : String → aH → Prop} (hs : Sp S C d k1 k2 args h Q X) (hQ : ∀ v h', Q v h' → Q' v h') (hX : ∀ E h', X E h' → X' E h') : Sp S C d k1 k2 args h Q' X' := by
  intro l G hl p e ha hc hk s m av below hf hP hK hp
  have := hs l G hl p e ha hc hk s m av below hf hP hK hp
  obtain ⟨k, o, h1, h2, h3, h4⟩ := this
  refine ⟨k, o, h1, h2, h3, ?_⟩
  rcases h4 with ⟨⟨v, h', e1, e2, e3⟩, hL⟩ | ⟨q, e1, E, ce, L, ⟨h', x1, x2⟩, hr⟩
  · exact Or.inl ⟨⟨v, h', e1, hQ _ _ e2, e3⟩, hL⟩
  · exact Or.inr ⟨q, e1, E, ce, L, ⟨h', hX _ _ x1, x2⟩, hr⟩
section A8
variable {p : Program} {l : Launch} {e : Env} {R : Room} {s : State} {m : MethodId} {args : Array Value} {below : List Frame} {meth : Method} {c : Code} {H : Heap} {locs : List Loc} {cells slots : Nat} {QW : State → Prop}
/-- behind a call -/
theorem go_run {G : aG} {Q' : Option Value → aH → Prop} {X' : String → aH → Prop} {j1 j2 pc : Nat} {la : Array Slot} {st0 rest : List Value} {a : Array Value}
    (hr : vx_Run p l e R s m args below meth c H locs cells slots j1 j2 (F0 m pc la st0) rest (QcM G Q' a) (XcM G X') (aA G)) (hF : va_S (aA G) s.heap H locs)
    (kr : ∀ v h' H' locs', Q' v h' → Rep G h' H' → va_S (aA G) s.heap H' locs' → W p l e R s m args below meth c H' locs' (cells + j1) (slots + j2) QW (F0 m (pc + 3) la ((Option.map (mv G) v).toList ++ rest)))
    (kx : ∀ E h' q ce H' locs', X' E h' → Rep G h' H' → va_S (aA G) s.heap H' locs' → H'[q]? = some ce → ce.vm = .none → s.vm.findClass E = some ce.cls → vx_W p l e R s m args below meth c H' locs' (cells + j1) (slots + j2) QW (F0 m pc la rest) q) :
    W p l e R s m args below meth c H locs cells slots QW (F0 m pc la st0) := by
  intro T hT X
  have keep : ∀ {st₀ t T' : State} {L : List Loc}, st₀.heap = H → T'.heap = t.heap → va_F (aA G) st₀ t → (∀ q ∈ L, aA G q.base) → va_S (aA G) s.heap T'.heap (locs ++ L) := by
    intro st₀ t T' L h0 e1 hf hL
    exact (vx_keep h0 e1 hF (fun _ _ z => z) (fun _ z => z) hL hf).2.2
  rcases hr T hT X with ⟨v, st₀, t, T', L, h0, X', hL, e1, e2, ⟨v', h', q1, q2, q3, q4⟩, st⟩ | ⟨q, st₀, t, T', L, E, ce, h0, X', hL, e1, e2, ⟨h', q2, q3, q4⟩, hce, hcv, hcl, st⟩
  · cases q1
    obtain ⟨t2, a1, b1⟩ := kr v' h' T'.heap (locs ++ L) q2 (by rw [e1]; exact q3) (keep h0 e1 q4 hL) T' rfl X'
    exact ⟨t2, st t2 a1, b1⟩
  · obtain ⟨t2, a1, b1⟩ := kx E h' q ce T'.heap (locs ++ L) q2 (by rw [e1]; exact q3) (keep h0 e1 q4 hL) (by rw [e1]; exact hce) hcv hcl T' rfl X'
    exact ⟨t2, st.trans a1, b1⟩
end A8
/-- the good words of the tables -/
def gT : List Cond := lw_tbl.filter goodWord
theorem gT_ok {S : aS} {G : aG} {s : State} {args : Array Value} (hS : SW S G s) : ∀ w ∈ gT, w.before args s = true := fun w hw => by
  obtain ⟨h1, h2⟩ := List.mem_filter.mp hw
  exact hS.2.2.1 w h1 (by rw [h2]; rfl) args
def inT (w : Cond) : Prop := w ∈ lw_tbl ∧ goodWord w = true
theorem inT_gT {w : Cond} (h : inT w) : w ∈ gT := List.mem_filter.mpr h
theorem good_gT {ws : List Cond} (h : ∀ w ∈ ws, inT w) : GoodIn gT ws := fun w hw => ⟨inT_gT (h w hw), good_of_word (h w hw).2⟩
/-- a method as its callers know it -/
def MO (C : aM) (n : Nat) : Prop := C.2.2.2.2.1 = [] ∧ inT (.code C.1 C.2.1 C.2.2.1 C.2.2.2.1) ∧ inT (.initialized C.1.cls) ∧ (C.1.cls ≠ "java/lang/invoke/MethodHandle" ∧ C.1.cls ≠ "java/lang/invoke/VarHandle" ∧ (parseMethodDescriptor C.1.desc).map (fun d => d.parameters.length) = some n) ∧ C.2.2.1 ≤ 60
def MOv (C : aM) (n : Nat) : Prop := MO C n ∧ inT (.instanceMethod C.1) ∧ inT (.selects C.1.cls C.1 C.1)
def MOs (C : aM) (n : Nat) : Prop := MO C n ∧ inT (.static C.1)
def MOi (C : aM) (n : Nat) : Prop := MO C n ∧ inT (.instanceMethod C.1) ∧ C.1.name = "<init>" ∧ C.2.2.2.1 = none
def MOw (C : aM) (n : Nat) : Prop := C.2.2.2.2.1 ≠ [] ∧ inT (.codeWith C.1 C.2.1 C.2.2.1 C.2.2.2.1 C.2.2.2.2.1) ∧ inT (.initialized C.1.cls) ∧ (C.1.cls ≠ "java/lang/invoke/MethodHandle" ∧ C.1.cls ≠ "java/lang/invoke/VarHandle" ∧ (parseMethodDescriptor C.1.desc).map (fun d => d.parameters.length) = some n) ∧ C.2.2.1 ≤ 60 ∧ inT (.static C.1)
/-- the pool entry idx of class own is that method: one's own class's or a public one; a nest mate's private one -/
def LK (own : String) (idx : Nat) (C : aM) : Prop := inT (.methodLink own idx C.1)
def LKn (own : String) (idx : Nat) (C : aM) : Prop := ∃ host, Cond.methodLinkNest own idx C.1 host ∈ lw_tbl
theorem mW_code {C : aM} (h : C.2.2.2.2.1 = []) : mW C = .code C.1 C.2.1 C.2.2.1 C.2.2.2.1 := by unfold mW; rw [h]
theorem mW_codeW {C : aM} (h : C.2.2.2.2.1 ≠ []) : mW C = .codeWith C.1 C.2.1 C.2.2.1 C.2.2.2.1 C.2.2.2.2.1 := by
  unfold mW
  split
  · next z => exact absurd z h
  · rfl
theorem MO.ws {C : aM} {n : Nat} (h : MO C n) : ∀ w ∈ [mW C], inT w := fun w hw => by
  rw [mW_code h.1, List.mem_singleton] at hw
  subst hw
  exact h.2.1
section A9
variable {S : aS} {C C' : aM} {d d' : Nat} {Q Q' : Option Value → aH → Prop} {X X' : String → aH → Prop} {k1 k2 j1 j2 pc np tgt n : Nat} {w : Int32} {ls ls' : List (Option Value)} {st st' st0 : List Value} {h : aH} {ins : Instr} {As : List Value}
/-- what a call asks of the room: d' + 1 ≤ d, and of the stack below -/
def cOk (d d' j1 j2 k1 k2 : Nat) (st : List Value) : Bool := Nat.ble (d' + 1) d && (Nat.ble j1 k1 && (Nat.ble j2 k2 && Nat.ble (st.map fun v => v.category).sum 8))
theorem cOk_spec {d d' j1 j2 k1 k2 : Nat} {st : List Value} (h : cOk d d' j1 j2 k1 k2 st = true) : d' + 1 ≤ d ∧ j1 ≤ k1 ∧ j2 ≤ k2 ∧ (st.map fun v => v.category).sum ≤ 8 := by
  simp only [cOk, Bool.and_eq_true] at h
  exact ⟨Nat.le_of_ble_eq_true h.1, Nat.le_of_ble_eq_true h.2.1, Nat.le_of_ble_eq_true h.2.2.1, Nat.le_of_ble_eq_true h.2.2.2⟩
theorem cat_map (G : aG) (st : List Value) : ((st.map (mv G)).map fun v => v.category).sum = (st.map fun v => v.category).sum := by
  rw [List.map_map]
  congr 1
  exact List.map_congr_left fun v _ => mv_cat G v
/-- thrown through a method without handlers -/
theorem go_out {p : Program} {l : Launch} {e : Env} {s : State} {m : MethodId} {args : Array Value} {below : List Frame} {meth : Method} {c : Code} {H' : Heap} {la : Array Slot} {locs' : List Loc} {cells slots mc ms : Nat} {G : aG} {E : String} {h' : aH} {q : Addr} {ce : Cell} {rest : List Value}
    (CC : CX C l p s m meth c) (hh : C.2.2.2.2.1 = []) (hX : X E h') (hR : Rep G h' H') (hF : va_S (aA G) s.heap H' locs') (hce : H'[q]? = some ce) (hcv : ce.vm = .none) (hcl : s.vm.findClass E = some ce.cls) (h1 : cells ≤ mc) (h2 : slots ≤ ms) :
    vx_W p l e (rmD d mc ms) s m args below meth c H' locs' cells slots (vx_MQ below (QcM G Q) (XcM G X) args s mc ms (aA G)) (F0 m pc la rest) q :=
  vx_out (fun x hx => by rw [CC.2.2.2.2.2.2.2.2.1, hh] at hx; cases hx) CC.2.2.2.1 hce hcv hcl (fun t ht hA => ⟨h', hX, by rw [ht]; exact hR, hF.F ht⟩) hF.2.2 h1 h2
/-- the words of a call of a method known by its callers -/
theorem cb_of {own : String} {idx : Nat} {s : State} {args : Array Value} {mc ms : Nat} {G : aG} (hS : SW S G s) (hM : MO C' n) (hl : inT (.methodLink own idx C'.1)) (hd : d' + 1 ≤ d) :
    CallB (rmD d mc ms) s args own idx C'.1 C'.2.1 C'.2.2.1 C'.2.2.2.1 [mW C'] (rmD d' j1 j2) j1 j2 n := by
  have := hM.2.2.2.2
  refine callB_of (Ts := gT) (ws' := []) n (gT_ok hS) (good_gT hM.ws) (by rw [mW_code hM.1]) rfl rfl (gT_ok hS _ (inT_gT hM.2.2.1)) (gT_ok hS _ (inT_gT hl)) hM.2.2.2.1 ⟨by show d' + 1 ≤ d; exact hd, ?_⟩
  show 8 + (C'.2.2.1 + 11) + 80 * d' ≤ 80 * d
  omega
theorem cn_of {own host : String} {idx : Nat} {s : State} {args : Array Value} {mc ms : Nat} {G : aG} (hS : SW S G s) (hM : MO C' n) (hl : Cond.methodLinkNest own idx C'.1 host ∈ lw_tbl) (hd : d' + 1 ≤ d) :
    va_CN (rmD d mc ms) s args own idx C'.1 host C'.2.1 C'.2.2.1 C'.2.2.2.1 [mW C'] (rmD d' j1 j2) j1 j2 n := by
  have := hM.2.2.2.2
  refine va_cnB (Ts := gT) (ws' := []) n (gT_ok hS) (good_gT hM.ws) (by rw [mW_code hM.1]) rfl rfl (va_Nw.of rfl (hS.2.2.1 _ hl (by simp [isNest]) #[])) (gT_ok hS _ (inT_gT hM.2.2.1)) hM.2.2.2.1 ⟨by show d' + 1 ≤ d; exact hd, ?_⟩
  show 8 + (C'.2.2.1 + 11) + 80 * d' ≤ 80 * d
  omega
theorem pc_of {s : State} {H : Heap} {G : aG} (hS : SW S G s) (hR : Rep G h H) {locs : List Loc} (hF : va_S (aA G) s.heap H locs) : ∀ U : State, U.heap = H → s.WarmedH U.vm → PcM S G As h (As.map (mv G)).toArray U := fun U hU hW => ⟨rfl, by rw [hU]; exact hR, SW.go hW (fun q hq hn => by rw [hU]; exact hF.2.1 q hq hn) hS⟩
/-- the receiver's class -/
def rcv (h : aH) (q : Nat) (cn : String) : Prop := ∃ ci r, h.1 q = (1, ci) ∧ aC[ci]? = some r ∧ r.1.1 = cn
theorem rcv_of {s : State} {H : Heap} {G : aG} {q : Nat} {cn : String} (hS : SW S G s) (hR : Rep G h H) (hq : rcv h q cn) : ∃ cellB : Cell, H[ad G q]? = some cellB ∧ cellB.vm.isStatics = false ∧ s.vm.findClass cn = some cellB.cls := by
  obtain ⟨ci, r, hK, hr, rfl⟩ := hq
  obtain ⟨r', hr', cell, q1, q2, q3, q4⟩ := hR.ob hK
  cases hr.symm.trans hr'
  exact ⟨cell, q1, by rw [q3]; rfl, by rw [q2]; exact (hS.1 ci r hr).2.1⟩
/-- a call's end, for all kinds -/
theorem a_end {p : Program} {l : Launch} {e : Env} {s : State} {m : MethodId} {args : Array Value} {below : List Frame} {meth : Method} {c : Code} {H : Heap} {la : Array Slot} {locs : List Loc} {cells slots mc ms : Nat} {G : aG} {a : Array Value} {stm : List Value}
    (CC : CX C l p s m meth c) (hS : SW S G s) (hL : HL G la C.2.2.1 ls) (hF : va_S (aA G) s.heap H locs) (h1 : cells + k1 ≤ mc) (h2 : slots + k2 ≤ ms) (g1 : j1 ≤ k1) (g2 : j2 ≤ k2) (hh : C.2.2.2.2.1 = [])
    (hr : vx_Run p l e (rmD d mc ms) s m args below meth c H locs cells slots j1 j2 (F0 m pc la stm) (st.map (mv G)) (QcM G Q' a) (XcM G X') (aA G))
    (kr : ∀ v h', Q' v h' → AW S C d Q X (k1 - j1) (k2 - j2) (pc + 3) ls (v.toList ++ st) h') (kx : ∀ E h', X' E h' → X E h') :
    W p l e (rmD d mc ms) s m args below meth c H locs cells slots (vx_MQ below (QcM G Q) (XcM G X) args s mc ms (aA G)) (F0 m pc la stm) := by
  refine go_run hr hF (fun v h' H' locs' q1 q2 q3 => ?_) (fun E h' q ce H' locs' q1 q2 q3 q4 q5 q6 => go_out CC hh (kx _ _ q1) q2 q3 q4 q5 q6 (by omega) (by omega))
  have K := kr v h' q1 p l e s m args below meth c H' la locs' (cells + j1) (slots + j2) mc ms G CC hS hL q2 q3 (by omega) (by omega)
  have e1 : (v.toList ++ st).map (mv G) = (Option.map (mv G) v).toList ++ st.map (mv G) := by cases v <;> simp
  rw [e1] at K
  exact K
theorem a_callV {idx q : Nat} (hC : look C pc = some (.invokevirtual idx, np, tgt, w)) (hl : LK C.1.cls idx C') (hM : MOv C' n) (hs : Sp S C' d' j1 j2 (.ref q :: As) h Q' X') (hn : As.length = n) (h0 : st0 = As.reverse ++ .ref q :: st) (ho : cOk d d' j1 j2 k1 k2 st = true) (hq : rcv h q C'.1.cls) (hh : C.2.2.2.2.1 = [])
    (kr : ∀ v h', Q' v h' → AW S C d Q X (k1 - j1) (k2 - j2) np ls (v.toList ++ st) h') (kx : ∀ E h', X' E h' → X E h') : AW S C d Q X k1 k2 pc ls st0 h := by
  intro p l e s m args below meth c H la locs cells slots mc ms G CC hS hL hR hF h1 h2
  obtain ⟨hd, rfl, -⟩ := okd CC.2.2.2.2.2.2.2.2.2 hC rfl
  obtain ⟨g0, g1, g2, g3⟩ := cOk_spec ho
  subst h0
  refine a_end CC hS hL hF h1 h2 g1 g2 hh (vx_runV (Ts := gT) (As := As.map (mv G)) (b := ad G q) ⟨CC.1, CC.2.1, CC.2.2.2.2.1, CC.2.2.2.2.2.1, gT_ok hS⟩ (hs l G CC.2.2.2.2.2.2.2.1) ⟨cb_of hS hM.1 hl g0, gT_ok hS _ (inT_gT hM.2.1), gT_ok hS _ (inT_gT hM.2.2)⟩ ⟨PcM.blind, rcv_of hS hR hq, pc_of (As := .ref q :: As) hS hR hF⟩ rfl (by simpa using hn) hL.1 (by simp [mv]) (lv_room (by rw [cat_map]; exact g3)) hd ⟨by show cells + j1 ≤ mc; omega, by show slots + j2 ≤ ms; omega⟩) kr kx
theorem a_callN {idx q : Nat} (hC : look C pc = some (.invokevirtual idx, np, tgt, w)) (hl : LKn C.1.cls idx C') (hM : MOv C' n) (hs : Sp S C' d' j1 j2 (.ref q :: As) h Q' X') (hn : As.length = n) (h0 : st0 = As.reverse ++ .ref q :: st) (ho : cOk d d' j1 j2 k1 k2 st = true) (hq : rcv h q C'.1.cls) (hh : C.2.2.2.2.1 = [])
    (kr : ∀ v h', Q' v h' → AW S C d Q X (k1 - j1) (k2 - j2) np ls (v.toList ++ st) h') (kx : ∀ E h', X' E h' → X E h') : AW S C d Q X k1 k2 pc ls st0 h := by
  intro p l e s m args below meth c H la locs cells slots mc ms G CC hS hL hR hF h1 h2
  obtain ⟨hd, rfl, -⟩ := okd CC.2.2.2.2.2.2.2.2.2 hC rfl
  obtain ⟨g0, g1, g2, g3⟩ := cOk_spec ho
  subst h0
  obtain ⟨host, hl⟩ := hl
  refine a_end CC hS hL hF h1 h2 g1 g2 hh (vx_runVN (Ts := gT) (As := As.map (mv G)) (b := ad G q) ⟨CC.1, CC.2.1, CC.2.2.2.2.1, CC.2.2.2.2.2.1, gT_ok hS⟩ (hs l G CC.2.2.2.2.2.2.2.1) ⟨cn_of hS hM.1 hl g0, gT_ok hS _ (inT_gT hM.2.1), gT_ok hS _ (inT_gT hM.2.2)⟩ ⟨PcM.blind, rcv_of hS hR hq, pc_of (As := .ref q :: As) hS hR hF⟩ rfl (by simpa using hn) hL.1 (by simp [mv]) (lv_room (by rw [cat_map]; exact g3)) hd ⟨by show cells + j1 ≤ mc; omega, by show slots + j2 ≤ ms; omega⟩) kr kx
theorem a_callS {idx : Nat} (hC : look C pc = some (.invokestatic idx, np, tgt, w)) (hl : LK C.1.cls idx C') (hM : MOs C' n) (hs : Sp S C' d' j1 j2 As h Q' X') (hn : As.length = n) (h0 : st0 = As.reverse ++ st) (ho : cOk d d' j1 j2 k1 k2 st = true) (hh : C.2.2.2.2.1 = [])
    (kr : ∀ v h', Q' v h' → AW S C d Q X (k1 - j1) (k2 - j2) np ls (v.toList ++ st) h') (kx : ∀ E h', X' E h' → X E h') : AW S C d Q X k1 k2 pc ls st0 h := by
  intro p l e s m args below meth c H la locs cells slots mc ms G CC hS hL hR hF h1 h2
  obtain ⟨hd, rfl, -⟩ := okd CC.2.2.2.2.2.2.2.2.2 hC rfl
  obtain ⟨g0, g1, g2, g3⟩ := cOk_spec ho
  subst h0
  refine a_end CC hS hL hF h1 h2 g1 g2 hh (vx_runS (Ts := gT) (As := As.map (mv G)) ⟨CC.1, CC.2.1, CC.2.2.2.2.1, CC.2.2.2.2.2.1, gT_ok hS⟩ (hs l G CC.2.2.2.2.2.2.2.1) ⟨cb_of hS hM.1 hl g0, gT_ok hS _ (inT_gT hM.2)⟩ ⟨PcM.blind, pc_of hS hR hF⟩ rfl (by simpa using hn) hL.1 (by simp) (lv_room (by rw [cat_map]; exact g3)) hd ⟨by show cells + j1 ≤ mc; omega, by show slots + j2 ≤ ms; omega⟩) kr kx
theorem a_callSN {idx : Nat} (hC : look C pc = some (.invokestatic idx, np, tgt, w)) (hl : LKn C.1.cls idx C') (hM : MOs C' n) (hs : Sp S C' d' j1 j2 As h Q' X') (hn : As.length = n) (h0 : st0 = As.reverse ++ st) (ho : cOk d d' j1 j2 k1 k2 st = true) (hh : C.2.2.2.2.1 = [])
    (kr : ∀ v h', Q' v h' → AW S C d Q X (k1 - j1) (k2 - j2) np ls (v.toList ++ st) h') (kx : ∀ E h', X' E h' → X E h') : AW S C d Q X k1 k2 pc ls st0 h := by
  intro p l e s m args below meth c H la locs cells slots mc ms G CC hS hL hR hF h1 h2
  obtain ⟨hd, rfl, -⟩ := okd CC.2.2.2.2.2.2.2.2.2 hC rfl
  obtain ⟨g0, g1, g2, g3⟩ := cOk_spec ho
  subst h0
  obtain ⟨host, hl⟩ := hl
  refine a_end CC hS hL hF h1 h2 g1 g2 hh (vx_runSN (Ts := gT) (As := As.map (mv G)) ⟨CC.1, CC.2.1, CC.2.2.2.2.1, CC.2.2.2.2.2.1, gT_ok hS⟩ (hs l G CC.2.2.2.2.2.2.2.1) ⟨cn_of hS hM.1 hl g0, gT_ok hS _ (inT_gT hM.2), trivial⟩ ⟨PcM.blind, pc_of hS hR hF⟩ rfl (by simpa using hn) hL.1 (by simp) (lv_room (by rw [cat_map]; exact g3)) hd ⟨by show cells + j1 ≤ mc; omega, by show slots + j2 ≤ ms; omega⟩) kr kx
theorem a_callI {idx q : Nat} (hC : look C pc = some (.invokespecial idx, np, tgt, w)) (hl : LK C.1.cls idx C') (hM : MOi C' n) (hs : Sp S C' d' j1 j2 (.ref q :: As) h Q' X') (hn : As.length = n) (h0 : st0 = As.reverse ++ .ref q :: st) (ho : cOk d d' j1 j2 k1 k2 st = true) (hh : C.2.2.2.2.1 = [])
    (kr : ∀ v h', Q' v h' → AW S C d Q X (k1 - j1) (k2 - j2) np ls (v.toList ++ st) h') (kx : ∀ E h', X' E h' → X E h') : AW S C d Q X k1 k2 pc ls st0 h := by
  intro p l e s m args below meth c H la locs cells slots mc ms G CC hS hL hR hF h1 h2
  obtain ⟨hd, rfl, -⟩ := okd CC.2.2.2.2.2.2.2.2.2 hC rfl
  obtain ⟨g0, g1, g2, g3⟩ := cOk_spec ho
  subst h0
  have cb := cb_of (args := args) (mc := mc) (ms := ms) (j1 := j1) (j2 := j2) hS hM.1 hl g0
  rw [hM.2.2.2] at cb
  refine a_end CC hS hL hF h1 h2 g1 g2 hh (vx_runI (Ts := gT) (As := As.map (mv G)) (b := ad G q) ⟨CC.1, CC.2.1, CC.2.2.2.2.1, CC.2.2.2.2.2.1, gT_ok hS⟩ (hs l G CC.2.2.2.2.2.2.2.1) ⟨cb, hM.2.2.1, gT_ok hS _ (inT_gT hM.2.1)⟩ ⟨PcM.blind, pc_of (As := .ref q :: As) hS hR hF⟩ rfl (by simpa using hn) hL.1 (by simp [mv]) (lv_room (by rw [cat_map]; exact g3)) hd ⟨by show cells + j1 ≤ mc; omega, by show slots + j2 ≤ ms; omega⟩) kr kx
theorem a_callIN {idx q : Nat} (hC : look C pc = some (.invokespecial idx, np, tgt, w)) (hl : LKn C.1.cls idx C') (hM : MOi C' n) (hs : Sp S C' d' j1 j2 (.ref q :: As) h Q' X') (hn : As.length = n) (h0 : st0 = As.reverse ++ .ref q :: st) (ho : cOk d d' j1 j2 k1 k2 st = true) (hh : C.2.2.2.2.1 = [])
    (kr : ∀ v h', Q' v h' → AW S C d Q X (k1 - j1) (k2 - j2) np ls (v.toList ++ st) h') (kx : ∀ E h', X' E h' → X E h') : AW S C d Q X k1 k2 pc ls st0 h := by
  intro p l e s m args below meth c H la locs cells slots mc ms G CC hS hL hR hF h1 h2
  obtain ⟨hd, rfl, -⟩ := okd CC.2.2.2.2.2.2.2.2.2 hC rfl
  obtain ⟨g0, g1, g2, g3⟩ := cOk_spec ho
  subst h0
  obtain ⟨host, hl⟩ := hl
  have cb := cn_of (args := args) (mc := mc) (ms := ms) (j1 := j1) (j2 := j2) hS hM.1 hl g0
  rw [hM.2.2.2] at cb
  refine a_end CC hS hL hF h1 h2 g1 g2 hh (vx_runIN (Ts := gT) (As := As.map (mv G)) (b := ad G q) ⟨CC.1, CC.2.1, CC.2.2.2.2.1, CC.2.2.2.2.2.1, gT_ok hS⟩ (hs l G CC.2.2.2.2.2.2.2.1) ⟨cb, hM.2.2.1, gT_ok hS _ (inT_gT hM.2.1)⟩ ⟨PcM.blind, pc_of (As := .ref q :: As) hS hR hF⟩ rfl (by simpa using hn) hL.1 (by simp [mv]) (lv_room (by rw [cat_map]; exact g3)) hd ⟨by show cells + j1 ≤ mc; omega, by show slots + j2 ≤ ms; omega⟩) kr kx
/-- a static method with handlers of its own, which never throws -/
theorem a_callW {idx : Nat} (hC : look C pc = some (.invokestatic idx, np, tgt, w)) (hl : LK C.1.cls idx C') (hM : MOw C' n) (hs : Sp S C' d' j1 j2 As h Q' X') (hn : As.length = n) (h0 : st0 = As.reverse ++ st) (ho : cOk d d' j1 j2 k1 k2 st = true) (hh : C.2.2.2.2.1 = [])
    (kr : ∀ v h', Q' v h' → AW S C d Q X (k1 - j1) (k2 - j2) np ls (v.toList ++ st) h') (kx : ∀ E h', X' E h' → X E h') : AW S C d Q X k1 k2 pc ls st0 h := by
  intro p l e s m args below meth c H la locs cells slots mc ms G CC hS hL hR hF h1 h2
  obtain ⟨hd, rfl, -⟩ := okd CC.2.2.2.2.2.2.2.2.2 hC rfl
  obtain ⟨g0, g1, g2, g3⟩ := cOk_spec ho
  subst h0
  have hw : ∀ w ∈ [mW C'], inT w := fun w hw => by
    rw [mW_codeW hM.1, List.mem_singleton] at hw
    subst hw
    exact hM.2.1
  have hm := hM.2.2.2.2.1
  have cw := vx_cwSW (R := rmD d mc ms) (s := s) (args := args) (own := C.1.cls) (index := idx) (hh := C'.2.2.2.2.1) (rm := rmD d' j1 j2) (mc := j1) (ms := j2) (ws := [mW C']) (ws' := []) (bytes := C'.2.1) (maxL := C'.2.2.1) (ret := C'.2.2.2.1) (y := C'.1) (Ts := gT) n (gT_ok hS) (good_gT (fun w hw' => by
      unfold va_wsS at hw'
      rcases List.mem_append.mp hw' with hw' | hw'
      · simp only [List.mem_cons, List.not_mem_nil, or_false] at hw'
        rcases hw' with rfl | rfl | rfl
        · exact hl
        · exact hM.2.2.2.2.2
        · exact hM.2.2.1
      · exact hw w hw')) (by rw [mW_codeW hM.1]) rfl rfl hM.2.2.2.1 ⟨by show d' + 1 ≤ d; exact g0, by show 8 + (C'.2.2.1 + 11) + 80 * d' ≤ 80 * d; omega⟩
  refine a_end CC hS hL hF h1 h2 g1 g2 hh (vx_runSX (Ts := gT) (As := As.map (mv G)) ⟨CC.1, CC.2.1, CC.2.2.2.2.1, CC.2.2.2.2.2.1, gT_ok hS⟩ (hs l G CC.2.2.2.2.2.2.2.1) cw ⟨PcM.blind, pc_of hS hR hF⟩ rfl (by simpa using hn) hL.1 (by simp) (lv_room (by rw [cat_map]; exact g3)) hd ⟨by show cells + j1 ≤ mc; omega, by show slots + j2 ≤ ms; omega⟩) kr kx
end A9
end
section
/-! ===== the rules of AW: making, constants, the library, throwing ===== -/
def upK (K : Nat → Nat × Nat) (p : Nat) (v : Nat × Nat) : Nat → Nat × Nat := fun q => if q = p then v else K q
/-- 'new' of a class of places -/
def LN (own : String) (idx ci N : Nat) : Prop := ∃ r, aC[ci]? = some r ∧ aOk r ∧ r.1.2.2 = N ∧ inT (.classLink own idx r.1.1) ∧ inT (.instantiable r.1.1 r.1.2.2) ∧ inT (.initialized r.1.1) ∧ ∀ k, k < N → (isIntTy (r.2 k) || isRefTy (r.2 k)) = true
theorem Rep.push {G : aG} {K : Nat → Nat × Nat} {I : Nat → Nat → Int32} {L : Nat → Nat → Int64} {R : Nat → Nat → Nat} {t : Nat} {v : Nat × Nat} {H H' : Heap} (hR : Rep G (K, I, L, R, t) H) (ht : 200 ≤ t) (hz : H'.size = H.size + 1) (ho : ∀ q, q < H.size → H'[q]? = H[q]?) (hc : ad G t = H.size → cellA G (upK K t v, I, L, R, t + 1) H' t) : Rep G (upK K t v, I, L, R, t + 1) H' ∧ ad G t = H.size := by
  obtain ⟨h1, h2, h3, h4⟩ := hR
  have e : ad G t = H.size := by rw [ad_dyn ht]; exact (h3 ht).symm
  refine ⟨⟨fun q => ?_, fun q hq => ?_, fun z => ?_, by rw [hz]; exact Nat.le_succ_of_le h4⟩, e⟩
  · by_cases hq : q = t
    · subst hq
      exact hc e
    · have h5 := h1 q
      unfold cellA at h5 ⊢
      dsimp only at h5 ⊢
      rw [show upK K t v q = K q by simp [upK, hq]]
      rcases hk : K q with ⟨a, b⟩
      rw [hk] at h5
      rcases a with _ | _ | a
      · trivial
      · obtain ⟨r, r1, cell, r2, r3⟩ := h5
        exact ⟨r, r1, cell, (ho _ (Array.getElem?_eq_some_iff.mp r2).1).trans r2, r3⟩
      · have h6 : H[ad G q]? = some (arrV (G.2.1 (a + 2)) b (fun j => ev G I L R (a + 2) q j)) := h5
        exact (ho _ (Array.getElem?_eq_some_iff.mp h6).1).trans h6
  · by_cases hqt : q = t
    · rw [hqt]; exact ht
    · exact h2 q (by simpa [upK, hqt] using hq)
  · show H'.size = _
    rw [hz, h3 ht]
    show G.2.2.1 + (t - 200) + 1 = G.2.2.1 + (t + 1 - 200)
    omega
theorem fv_zero {G : aG} {I : Nat → Nat → Int32} {R : Nat → Nat → Nat} {p k : Nat} {ty : FieldType} (h : (isIntTy ty || isRefTy ty) = true) (hI : I p k = 0) (hR : R p k = 0) : fv G I R p ty k = defaultValue ty := by
  cases ty <;> first | (cases h; done) | simp [fv, hI, hR, defaultValue, rv, mv]
def atyTag : ArrayType → Nat
  | .int => 2
  | .byte => 3
  | .long => 4
  | _ => 9
theorem aty_cases {aty : ArrayType} {tg : Nat} (h : atyTag aty = tg + 2) (h3 : tg < 3) : (aty = .int ∧ tg = 0) ∨ (aty = .byte ∧ tg = 1) ∨ (aty = .long ∧ tg = 2) := by
  cases aty <;> simp only [atyTag] at h <;> first | (exact absurd h (by omega)) | exact Or.inl ⟨rfl, by omega⟩ | exact Or.inr (Or.inl ⟨rfl, by omega⟩) | exact Or.inr (Or.inr ⟨rfl, by omega⟩)
section B1
variable {S : aS} {C C' : aM} {d d' : Nat} {Q Q' : Option Value → aH → Prop} {X X' : String → aH → Prop} {k1 k2 j1 j2 pc np tgt n : Nat} {w : Int32} {ls ls' : List (Option Value)} {st st' st0 : List Value} {h : aH} {ins : Instr} {As : List Value}
variable {K : Nat → Nat × Nat} {I : Nat → Nat → Int32} {L : Nat → Nat → Int64} {R : Nat → Nat → Nat} {t : Nat}
theorem a_new {idx ci N : Nat} (hC : look C pc = some (.new idx, np, tgt, w)) (hl : LN C.1.cls idx ci N) (ht : Nat.ble 200 t = true) (h1 : Nat.ble 1 k1 = true) (h2 : Nat.ble N k2 = true) (hI : ∀ k, I t k = 0) (hR0 : ∀ k, R t k = 0) (kk : AW S C d Q X (k1 - 1) (k2 - N) np ls (.ref t :: st) (upK K t (1, ci), I, L, R, t + 1)) : AW S C d Q X k1 k2 pc ls st (K, I, L, R, t) := by
  intro p l e s m args below meth c H la locs cells slots mc ms G CC hS hL hR hF g1 g2
  obtain ⟨hd, rfl, -⟩ := okd CC.2.2.2.2.2.2.2.2.2 hC rfl
  have ht := Nat.le_of_ble_eq_true ht
  have h1 := Nat.le_of_ble_eq_true h1
  have h2 := Nat.le_of_ble_eq_true h2
  obtain ⟨r, hr, hok, rfl, w1, w2, w3, hty⟩ := hl
  have hKn := hS.1 ci r hr
  have tk : ∀ x, inT x → x.before args s = true := fun x hx => gT_ok hS _ (inT_gT hx)
  have hts : ∀ w ∈ u_ws r.1.1 r.1.2.1 r.1.2.2, w.before args s = true := fun w hw => tk w (hok.1 w hw)
  refine W.newcK CC.1 CC.2.1 CC.2.2.2.2.2.1 (tk _ w1) (tk _ w2) (tk _ w3) rfl hd (by show cells + 1 ≤ mc; omega) (by show slots + r.1.2.2 ≤ ms; omega) hKn.2.1 rfl fun H1 kC hkC e1 z1 o1 => ?_
  obtain ⟨hR', ea⟩ := Rep.push (v := (1, ci)) (H' := H1) hR ht z1 o1 (fun ea => by
    unfold cellA
    dsimp only
    rw [show upK K t (1, ci) t = (1, ci) by simp [upK]]
    obtain ⟨cell, c1, c2, c3, c4⟩ := u_born (o := H.size) r.2 hts (fun w hw => hw) hKn hkC e1 hok.2.2
    refine ⟨r, hr, cell, by rw [ea]; exact c1, c2, c3, fun k hk => ?_⟩
    rw [c4 k hk]
    exact congrArg some (fv_zero (hty k hk) (hI k) (hR0 k)).symm)
  rw [← ea]
  exact kk p l e s m args below meth c H1 la locs (cells + 1) (slots + r.1.2.2) mc ms G CC hS hL hR' ⟨Nat.le_trans hF.1 (by omega), fun q q1 q2 => (o1 q (Nat.lt_of_lt_of_le q1 hF.1)).trans (hF.2.1 q q1 q2), hF.2.2⟩ (by omega) (by omega)
theorem a_newarr {aty : ArrayType} {x : Int32} {N tg : Nat} (hC : look C pc = some (.newarray aty, np, tgt, w)) (ha : atyTag aty = tg + 2) (htg : Nat.blt tg 3 = true) (hw : inT (.arrayClass (newarray.typeOf aty))) (hx : ¬ x < 0) (hN : x.toNatClampNeg = N) (hN2 : Nat.ble N 60000 = true) (ht : Nat.ble 200 t = true) (h1 : Nat.ble 1 k1 = true) (h2 : Nat.ble N k2 = true) (hI : ∀ k, I t k = 0) (hL0 : ∀ k, L t k = 0) (kk : AW S C d Q X (k1 - 1) (k2 - N) np ls (.ref t :: st) (upK K t (tg + 2, N), I, L, R, t + 1)) : AW S C d Q X k1 k2 pc ls (.int x :: st) (K, I, L, R, t) := by
  intro p l e s m args below meth c H la locs cells slots mc ms G CC hS hL hR hF g1 g2
  obtain ⟨hd, rfl, -⟩ := okd CC.2.2.2.2.2.2.2.2.2 hC rfl
  have ht := Nat.le_of_ble_eq_true ht
  have h1 := Nat.le_of_ble_eq_true h1
  have h2 := Nat.le_of_ble_eq_true h2
  have hN2 := Nat.le_of_ble_eq_true hN2
  have htg : tg < 3 := Nat.le_of_ble_eq_true htg
  have tk : ∀ x, inT x → x.before args s = true := fun x hx => gT_ok hS _ (inT_gT hx)
  have hbytes : N * componentBytes (newarray.typeOf aty) ≤ 536870912 := by
    have : componentBytes (newarray.typeOf aty) ≤ 8 := by cases aty <;> decide
    calc N * componentBytes (newarray.typeOf aty) ≤ 60000 * 8 := Nat.mul_le_mul hN2 this
      _ ≤ 536870912 := by decide
  refine va_newaK CC.1 CC.2.1 (tk _ hw) rfl hd rfl hx hN hbytes (by show cells + 1 ≤ mc; omega) (by show slots + N ≤ ms; omega) rfl fun H1 cA e1 z1 o1 hAr hNm => ?_
  have hcA : cA = G.2.1 (tg + 2) := by
    have h3 := (hS.2.1 tg (by omega)).2
    rcases aty_cases ha htg with ⟨rfl, rfl⟩ | ⟨rfl, rfl⟩ | ⟨rfl, rfl⟩ <;> exact Option.some.inj (hNm.symm.trans h3)
  subst hcA
  obtain ⟨hR', ea⟩ := Rep.push (v := (tg + 2, N)) (H' := H1) hR ht z1 o1 (fun ea => by
    unfold cellA
    dsimp only
    rw [show upK K t (tg + 2, N) t = (tg + 2, N) by simp [upK]]
    show H1[ad G t]? = some (arrV _ _ _)
    rw [ea, e1]
    congr 2
    funext j
    rcases aty_cases ha htg with ⟨rfl, rfl⟩ | ⟨rfl, rfl⟩ | ⟨rfl, rfl⟩ <;> simp [ev, hI, hL0, newarray.typeOf, defaultValue])
  rw [← ea]
  exact kk p l e s m args below meth c H1 la locs (cells + 1) (slots + N) mc ms G CC hS hL hR' ⟨Nat.le_trans hF.1 (by omega), fun q q1 q2 => (o1 q (Nat.lt_of_lt_of_le q1 hF.1)).trans (hF.2.1 q q1 q2), hF.2.2⟩ (by omega) (by omega)
/-- the one array of streets -/
theorem a_anew {idx N : Nat} {x : Int32} (hC : look C pc = some (.anewarray idx, np, tgt, w)) (hw1 : inT (.classLink C.1.cls idx RX5)) (hw2 : inT (.arrayOver (.object RX5)) ∨ Cond.arrayOver (.object RX5) ∈ lw_tbl) (hov : ∀ (G : aG) (s : State) (args : Array Value), SW S G s → (Cond.arrayOver (.object RX5)).before args s = true) (hx : ¬ x < 0) (hN : x.toNatClampNeg = N) (hN2 : Nat.ble N 60000 = true) (ht : Nat.ble 200 t = true) (h1 : Nat.ble 1 k1 = true) (h2 : Nat.ble N k2 = true) (hR0 : ∀ k, R t k = 0) (kk : AW S C d Q X (k1 - 1) (k2 - N) np ls (.ref t :: st) (upK K t (5, N), I, L, R, t + 1)) : AW S C d Q X k1 k2 pc ls (.int x :: st) (K, I, L, R, t) := by
  intro p l e s m args below meth c H la locs cells slots mc ms G CC hS hL hR hF g1 g2
  obtain ⟨hd, rfl, -⟩ := okd CC.2.2.2.2.2.2.2.2.2 hC rfl
  have ht := Nat.le_of_ble_eq_true ht
  have h1 := Nat.le_of_ble_eq_true h1
  have h2 := Nat.le_of_ble_eq_true h2
  have hN2 := Nat.le_of_ble_eq_true hN2
  have tk : ∀ x, inT x → x.before args s = true := fun x hx => gT_ok hS _ (inT_gT hx)
  subst hN
  refine W.anew CC.1 CC.2.1 CC.2.2.2.2.2.1 (tk _ hw1) (hov G s args hS) rfl hd rfl hx (by omega) (by show cells + 1 ≤ mc; omega) (by show slots + _ ≤ ms; omega) fun cA kA comp e0 e1 e2 e3 => ?_
  have hcA : cA = G.2.1 5 := by
    obtain ⟨kA', comp', b1, b2, b3, b4⟩ := (hS.2.1 3 (by decide)).2
    exact Option.some.inj (e0.symm.trans b4)
  subst hcA
  obtain ⟨hR', ea⟩ := Rep.push (v := (5, x.toNatClampNeg)) (H' := H.push { cls := G.2.1 5, slots := Array.replicate x.toNatClampNeg .null, vm := .none }) hR ht (by simp) (fun q hq => by rw [Array.getElem?_push, if_neg (Nat.ne_of_lt hq)]) (fun ea => by
    unfold cellA
    dsimp only
    rw [show upK K t (5, x.toNatClampNeg) t = (5, x.toNatClampNeg) by simp [upK]]
    show (H.push _)[ad G t]? = some (arrV _ _ _)
    rw [ea, arrV_new]
    simp only [Array.getElem?_push_size]
    congr 2
    funext j
    simp [ev, hR0, rv, mv])
  have K2 := kk p l e s m args below meth c _ la locs (cells + 1) (slots + x.toNatClampNeg) mc ms G CC hS hL hR' ⟨Nat.le_trans hF.1 (by simp), fun q q1 q2 => (by rw [Array.getElem?_push, if_neg (Nat.ne_of_lt (Nat.lt_of_lt_of_le q1 hF.1))]; exact hF.2.1 q q1 q2), hF.2.2⟩ (by omega) (by omega)
  simp only [List.map_cons, mv, ea] at K2
  exact K2
theorem a_objinit {idx q : Nat} (hC : look C pc = some (.invokespecial idx, np, tgt, w)) (hl : inT (.methodLink C.1.cls idx Lib.objectInit)) (hi : inT (.instanceMethod Lib.objectInit)) (hc : inT (.code Lib.objectInit ⟨#[0xb1]⟩ 1 none)) (hd1 : Nat.ble 1 d = true) (hst : Nat.ble (st.map fun v => v.category).sum 8 = true) (kk : AW S C d Q X k1 k2 np ls st h) : AW S C d Q X k1 k2 pc ls (.ref q :: st) h := by
  intro p l e s m args below meth c H la locs cells slots mc ms G CC hS hL hR hF g1 g2
  obtain ⟨hd, rfl, -⟩ := okd CC.2.2.2.2.2.2.2.2.2 hC rfl
  have hd1 := Nat.le_of_ble_eq_true hd1
  have hst := Nat.le_of_ble_eq_true hst
  have tk : ∀ x, inT x → x.before args s = true := fun x hx => gT_ok hS _ (inT_gT hx)
  refine W.objInit CC.1 CC.2.1 CC.2.2.2.2.2.1 (tk _ hl) (tk _ hi) (tk _ hc) rfl (hL.1.trans CC.2.2.2.2.1.symm) (rest := st.map (mv G)) rfl hd hd1 ?_ (kk p l e s m args below meth c H la locs cells slots mc ms G CC hS hL hR hF g1 g2)
  rw [cat_map]
  show 2 * 0 + _ + 12 ≤ 80 * d
  omega
/-! constants -/
theorem a_ldc {idx : Nat} {v : Int32} (hC : look C pc = some (.ldc idx, np, tgt, w)) (hl : inT (.constant C.1.cls idx v)) (kk : AW S C d Q X k1 k2 np ls (.int v :: st) h) : AW S C d Q X k1 k2 pc ls st h := by
  intro p l e s m args below meth c H la locs cells slots mc ms G CC hS hL hR hF g1 g2
  obtain ⟨hd, rfl, -⟩ := okd CC.2.2.2.2.2.2.2.2.2 hC rfl
  exact lv_ldc CC.1 CC.2.1 CC.2.2.2.2.2.1 (gT_ok hS _ (inT_gT hl)) hd (kk p l e s m args below meth c H la locs cells slots mc ms G CC hS hL hR hF g1 g2)
theorem a_ldcw {idx : Nat} {v : Int32} (hC : look C pc = some (.ldc_w idx, np, tgt, w)) (hl : inT (.constant C.1.cls idx v)) (kk : AW S C d Q X k1 k2 np ls (.int v :: st) h) : AW S C d Q X k1 k2 pc ls st h := by
  intro p l e s m args below meth c H la locs cells slots mc ms G CC hS hL hR hF g1 g2
  obtain ⟨hd, rfl, -⟩ := okd CC.2.2.2.2.2.2.2.2.2 hC rfl
  exact lv_ldcw CC.1 CC.2.1 CC.2.2.2.2.2.1 (gT_ok hS _ (inT_gT hl)) hd (kk p l e s m args below meth c H la locs cells slots mc ms G CC hS hL hR hF g1 g2)
theorem a_ldc2 {idx : Nat} {v : Int64} (hC : look C pc = some (.ldc2_w idx, np, tgt, w)) (hl : inT (.constantLong C.1.cls idx v)) (kk : AW S C d Q X k1 k2 np ls (.long v :: st) h) : AW S C d Q X k1 k2 pc ls st h := by
  intro p l e s m args below meth c H la locs cells slots mc ms G CC hS hL hR hF g1 g2
  obtain ⟨hd, rfl, -⟩ := okd CC.2.2.2.2.2.2.2.2.2 hC rfl
  exact lv_ldc2 CC.1 CC.2.1 CC.2.2.2.2.2.1 (gT_ok hS _ (inT_gT hl)) hd (kk p l e s m args below meth c H la locs cells slots mc ms G CC hS hL hR hF g1 g2)
theorem a_ldcs {idx q : Nat} {tx : String} (hC : look C pc = some (.ldc idx, np, tgt, w)) (hl : (C.1.cls, idx, tx, q) ∈ S.2.2.2.2.1) (kk : AW S C d Q X k1 k2 np ls (.ref q :: st) h) : AW S C d Q X k1 k2 pc ls st h := by
  intro p l e s m args below meth c H la locs cells slots mc ms G CC hS hL hR hF g1 g2
  obtain ⟨hd, rfl, -⟩ := okd CC.2.2.2.2.2.2.2.2.2 hC rfl
  exact va_ldcS CC.1 CC.2.1 CC.2.2.2.2.2.1 (hS.2.2.2.2.1 _ hl) hd (kk p l e s m args below meth c H la locs cells slots mc ms G CC hS hL hR hF g1 g2)
theorem a_gets {idx : Nat} {cn f dd : String} {v : Value} (hC : look C pc = some (.getstatic idx, np, tgt, w)) (hl : inT (.fieldLink C.1.cls idx cn f dd)) (hs : (cn, f, dd, v) ∈ S.1) (kk : AW S C d Q X k1 k2 np ls (v :: st) h) : AW S C d Q X k1 k2 pc ls st h := by
  intro p l e s m args below meth c H la locs cells slots mc ms G CC hS hL hR hF g1 g2
  obtain ⟨hd, rfl, -⟩ := okd CC.2.2.2.2.2.2.2.2.2 hC rfl
  exact va_gets CC.1 CC.2.1 (hS.2.2.2.1.2.1 _ hs) hF CC.2.2.2.2.2.1 (gT_ok hS _ (inT_gT hl)) (fun _ z => z) hd (kk p l e s m args below meth c H la locs cells slots mc ms G CC hS hL hR hF g1 g2)
/-- a constant object's field -/
theorem a_getc {idx q : Nat} {o f dd : String} {v : Value} (hC : look C pc = some (.getfield idx, np, tgt, w)) (hl : inT (.fieldLink C.1.cls idx o f dd)) (hs : (q, o, f, dd, v) ∈ S.2.2.1) (kk : AW S C d Q X k1 k2 np ls (v :: st) h) : AW S C d Q X k1 k2 pc ls (.ref q :: st) h := by
  intro p l e s m args below meth c H la locs cells slots mc ms G CC hS hL hR hF g1 g2
  obtain ⟨hd, rfl, -⟩ := okd CC.2.2.2.2.2.2.2.2.2 hC rfl
  obtain ⟨cf, k, i, fd, cell, r1, r2, r3, r4, r5, r6⟩ := hS.2.2.2.1.2.2.2.1 _ hs
  have hq : H[ad G q]? = some cell := by
    rw [hF.2.1 _ (Array.getElem?_eq_some_iff.mp r3).1 r6]
    exact r3
  exact W.getf CC.1 CC.2.1 CC.2.2.2.2.2.1 (gT_ok hS _ (inT_gT hl)) r1 r2 hq r4 r5 rfl rfl hd (kk p l e s m args below meth c H la locs cells slots mc ms G CC hS hL hR hF g1 g2)
/-- a constant array -/
theorem a_lenc {q N : Nat} {ty : FieldType} {f : Nat → Value} (hC : look C pc = some (.arraylength, np, tgt, w)) (hs : (q, ty, N, f) ∈ S.2.2.2.1) {x : Int32} (hx : Int32.ofNat N = x) (kk : AW S C d Q X k1 k2 np ls (.int x :: st) h) : AW S C d Q X k1 k2 pc ls (.ref q :: st) h := by
  intro p l e s m args below meth c H la locs cells slots mc ms G CC hS hL hR hF g1 g2
  obtain ⟨hd, rfl, -⟩ := okd CC.2.2.2.2.2.2.2.2.2 hC rfl
  obtain ⟨cell, r1, r2, r3, r4, r5, r6, r7⟩ := hS.2.2.2.1.2.2.2.2 _ hs
  have hq : H[ad G q]? = some cell := by
    rw [hF.2.1 _ (Array.getElem?_eq_some_iff.mp r1).1 r7]
    exact r1
  exact W.alen CC.1 CC.2.1 hq r2 (r5.trans hx) rfl rfl hd (kk p l e s m args below meth c H la locs cells slots mc ms G CC hS hL hR hF g1 g2)
theorem a_aaldc {q N : Nat} {ty : FieldType} {f : Nat → Value} {i : Int32} (hC : look C pc = some (.aaload, np, tgt, w)) (hs : (q, ty, N, f) ∈ S.2.2.2.1) (hty : ty.isReference = true) (hi : inI i N) (kk : AW S C d Q X k1 k2 np ls (f i.toNatClampNeg :: st) h) : AW S C d Q X k1 k2 pc ls (.int i :: .ref q :: st) h := by
  intro p l e s m args below meth c H la locs cells slots mc ms G CC hS hL hR hF g1 g2
  obtain ⟨hd, rfl, -⟩ := okd CC.2.2.2.2.2.2.2.2.2 hC rfl
  obtain ⟨cell, r1, r2, r3, r4, r5, r6, r7⟩ := hS.2.2.2.1.2.2.2.2 _ hs
  have hq : H[ad G q]? = some cell := by
    rw [hF.2.1 _ (Array.getElem?_eq_some_iff.mp r1).1 r7]
    exact r1
  exact W.aald CC.1 CC.2.1 hq r2 hty r3 (inI_not ⟨hi.1, Nat.lt_of_lt_of_le hi.2 r4⟩) (r6 _ hi.2) rfl rfl hd (kk p l e s m args below meth c H la locs cells slots mc ms G CC hS hL hR hF g1 g2)
theorem a_baldc {q N : Nat} {f : Nat → Value} {i : Int32} (hC : look C pc = some (.baload, np, tgt, w)) (hs : (q, .byte, N, f) ∈ S.2.2.2.1) (hi : inI i N) (kk : AW S C d Q X k1 k2 np ls (f i.toNatClampNeg :: st) h) : AW S C d Q X k1 k2 pc ls (.int i :: .ref q :: st) h := by
  intro p l e s m args below meth c H la locs cells slots mc ms G CC hS hL hR hF g1 g2
  obtain ⟨hd, rfl, -⟩ := okd CC.2.2.2.2.2.2.2.2.2 hC rfl
  obtain ⟨cell, r1, r2, r3, r4, r5, r6, r7⟩ := hS.2.2.2.1.2.2.2.2 _ hs
  have hq : H[ad G q]? = some cell := by
    rw [hF.2.1 _ (Array.getElem?_eq_some_iff.mp r1).1 r7]
    exact r1
  exact W.bald CC.1 CC.2.1 hq r2 r3 (inI_not ⟨hi.1, Nat.lt_of_lt_of_le hi.2 r4⟩) (r6 _ hi.2) rfl rfl hd (kk p l e s m args below meth c H la locs cells slots mc ms G CC hS hL hR hF g1 g2)
/-! the library -/
def mOk (y : MethodName) (b : ByteArray) (n : Nat) : Prop := inT (.static y) ∧ inT (.initialized "java/lang/Math") ∧ inT (.code y b n (some .int))
theorem a_min {idx : Nat} {x y : Int32} (hC : look C pc = some (.invokestatic idx, np, tgt, w)) (hl : inT (.methodLink C.1.cls idx Lib.Math.min.name)) (hm : mOk Lib.Math.min.name Lib.Math.min.code 2) (hd1 : Nat.ble 1 d = true) (hst : Nat.ble (st.map fun v => v.category).sum 8 = true) (kk : AW S C d Q X k1 k2 np ls (.int (if y < x then y else x) :: st) h) : AW S C d Q X k1 k2 pc ls (.int y :: .int x :: st) h := by
  intro p l e s m args below meth c H la locs cells slots mc ms G CC hS hL hR hF g1 g2
  obtain ⟨hd, rfl, -⟩ := okd CC.2.2.2.2.2.2.2.2.2 hC rfl
  have hd1 := Nat.le_of_ble_eq_true hd1
  have hst := Nat.le_of_ble_eq_true hst
  have tk : ∀ x, inT x → x.before args s = true := fun x hx => gT_ok hS _ (inT_gT hx)
  refine va_mmin CC.1 CC.2.1 (CC.2.2.2.2.1.trans hL.1.symm) CC.2.2.2.2.2.1 (tk _ hl) (tk _ hm.1) (tk _ hm.2.1) (tk _ hm.2.2) hd1 ?_ (by show cells ≤ mc; omega) (by show slots ≤ ms; omega) hd (kk p l e s m args below meth c H la locs cells slots mc ms G CC hS hL hR hF g1 g2)
  rw [cat_map]
  show _ + 13 ≤ 80 * d
  omega
theorem a_max {idx : Nat} {x y : Int32} (hC : look C pc = some (.invokestatic idx, np, tgt, w)) (hl : inT (.methodLink C.1.cls idx Lib.Math.max.name)) (hm : mOk Lib.Math.max.name Lib.Math.max.code 2) (hd1 : Nat.ble 1 d = true) (hst : Nat.ble (st.map fun v => v.category).sum 8 = true) (kk : AW S C d Q X k1 k2 np ls (.int (if x < y then y else x) :: st) h) : AW S C d Q X k1 k2 pc ls (.int y :: .int x :: st) h := by
  intro p l e s m args below meth c H la locs cells slots mc ms G CC hS hL hR hF g1 g2
  obtain ⟨hd, rfl, -⟩ := okd CC.2.2.2.2.2.2.2.2.2 hC rfl
  have hd1 := Nat.le_of_ble_eq_true hd1
  have hst := Nat.le_of_ble_eq_true hst
  have tk : ∀ x, inT x → x.before args s = true := fun x hx => gT_ok hS _ (inT_gT hx)
  refine va_mmax CC.1 CC.2.1 (CC.2.2.2.2.1.trans hL.1.symm) CC.2.2.2.2.2.1 (tk _ hl) (tk _ hm.1) (tk _ hm.2.1) (tk _ hm.2.2) hd1 ?_ (by show cells ≤ mc; omega) (by show slots ≤ ms; omega) hd (kk p l e s m args below meth c H la locs cells slots mc ms G CC hS hL hR hF g1 g2)
  rw [cat_map]
  show _ + 13 ≤ 80 * d
  omega
theorem a_abs {idx : Nat} {x : Int32} (hC : look C pc = some (.invokestatic idx, np, tgt, w)) (hl : inT (.methodLink C.1.cls idx Lib.Math.abs.name)) (hm : mOk Lib.Math.abs.name Lib.Math.abs.code 1) (hd1 : Nat.ble 1 d = true) (hst : Nat.ble (st.map fun v => v.category).sum 8 = true) (kk : AW S C d Q X k1 k2 np ls (.int (if 0 ≤ x then x else 0 - x) :: st) h) : AW S C d Q X k1 k2 pc ls (.int x :: st) h := by
  intro p l e s m args below meth c H la locs cells slots mc ms G CC hS hL hR hF g1 g2
  obtain ⟨hd, rfl, -⟩ := okd CC.2.2.2.2.2.2.2.2.2 hC rfl
  have hd1 := Nat.le_of_ble_eq_true hd1
  have hst := Nat.le_of_ble_eq_true hst
  have tk : ∀ x, inT x → x.before args s = true := fun x hx => gT_ok hS _ (inT_gT hx)
  refine va_mabs CC.1 CC.2.1 (CC.2.2.2.2.1.trans hL.1.symm) CC.2.2.2.2.2.1 (tk _ hl) (tk _ hm.1) (tk _ hm.2.1) (tk _ hm.2.2) hd1 ?_ (by show cells ≤ mc; omega) (by show slots ≤ ms; omega) hd (kk p l e s m args below meth c H la locs cells slots mc ms G CC hS hL hR hF g1 g2)
  rw [cat_map]
  show _ + 13 ≤ 80 * d
  omega
def upr {α : Type} (f : Nat → α) (p : Nat) (r : α) : Nat → α := fun q => if q = p then r else f q
/-- System.arraycopy of rows of ints -/
theorem a_copy {idx q q' n0 n1 : Nat} {sp dp n : Int32} (hC : look C pc = some (.invokestatic idx, np, tgt, w)) (hl : inT (.methodLink C.1.cls idx arraycopyName)) (hm : inT (.native arraycopyName) ∧ inT (.static arraycopyName) ∧ inT (.initialized "java/lang/System")) (hK0 : K q = (2, n0)) (hK1 : K q' = (2, n1)) (h1 : ¬ sp < 0) (h2 : ¬ dp < 0) (h3 : ¬ n < 0) (h4 : sp.toNatClampNeg + n.toNatClampNeg ≤ n0) (h5 : dp.toNatClampNeg + n.toNatClampNeg ≤ n1) (hd1 : Nat.ble 1 d = true) (hst : Nat.ble (st.map fun v => v.category).sum 8 = true)
    (kk : AW S C d Q X k1 k2 np ls st (K, upr I q' (va_cpy (I q) (I q') sp.toNatClampNeg dp.toNatClampNeg n.toNatClampNeg), L, R, t)) : AW S C d Q X k1 k2 pc ls (.int n :: .int dp :: .ref q' :: .int sp :: .ref q :: st) (K, I, L, R, t) := by
  intro p l e s m args below meth c H la locs cells slots mc ms G CC hS hL hR hF g1 g2
  obtain ⟨hd, rfl, -⟩ := okd CC.2.2.2.2.2.2.2.2.2 hC rfl
  have hd1 := Nat.le_of_ble_eq_true hd1
  have hst := Nat.le_of_ble_eq_true hst
  have tk : ∀ x, inT x → x.before args s = true := fun x hx => gT_ok hS _ (inT_gT hx)
  have nn : ∀ z : Int32, ¬ z < 0 → z.toInt = (z.toNatClampNeg : Int) := by
    intro z hz
    have hz0 : (0 : Int) ≤ z.toInt := by
      have := Int32.not_lt.mp hz
      simpa using Int32.le_iff_toInt_le.mp this
    show z.toInt = ((z.toInt.toNat : Nat) : Int)
    omega
  have hp : 200 ≤ q' := hR.2.1 q' (by show (K q').1 ≠ 0; rw [hK1]; simp)
  have hc0 : H[ad G q]? = some (arrV (G.2.1 2) n0 (fun j => .int (I q j))) := hR.ar (t := 0) hK0
  have hc1 : H[ad G q']? = some (arrV (G.2.1 2) n1 (fun j => .int (I q' j))) := hR.ar (t := 0) hK1
  obtain ⟨-, k0, hk0, cm0, hkk0⟩ := (hS.2.1 0 (by decide)).1 n0 (fun j => .int (I q j))
  obtain ⟨-, kk1, hkk1', cm1, hkk1⟩ := (hS.2.1 0 (by decide)).1 n1 (fun j => .int (I q' j))
  intro T hT Y
  obtain ⟨vm', X', step⟩ := Y.arraycopy CC.1 CC.2.2.2.2.2.1 (tk _ hl) (tk _ hm.1) (tk _ hm.2.1) (tk _ hm.2.2) (src := ad G q) (dst := ad G q') (cs := arrV (G.2.1 2) n0 (fun j => .int (I q j))) (cd := arrV (G.2.1 2) n1 (fun j => .int (I q' j))) (srcPos := sp) (destPos := dp) (n := n) (by rw [hT]; exact hc0) (by rw [hT]; exact hc1)
    (arrV_ks _ _ _) (arrV_ks _ _ _) (arrV_kn _ _ _) (arrV_kn _ _ _) hk0 hkk1' hkk0 hkk1 (by simp [tagTy, refKind]) h1 h2 h3
    (by rw [nn sp h1, nn n h3, arrV_size]; omega)
    (by rw [nn dp h2, nn n h3, arrV_size]; omega)
    (fun vm₁ _ i hi => by
      have e : (arrV (G.2.1 2) n0 (fun j => Value.int (I q j))).slots.getD (sp.toNatClampNeg + i) .null = .int (I q (sp.toNatClampNeg + i)) := by
        rw [Array.getD_eq_getD_getElem?, arrV_read _ _ (by omega)]
        rfl
      refine ⟨?_, ?_⟩
      · rw [e]
        rfl
      · rw [e]
        exact trivial)
    (g := F0 m pc la ((Value.int n :: .int dp :: .ref q' :: .int sp :: .ref q :: st).map (mv G))) rfl (by show la.size = _; rw [hL.1, CC.2.2.2.2.1]) (rest := st.map (mv G)) rfl (by rw [CC.2.1]; exact hd) hd1 (by
      rw [cat_map]
      show 2 * 0 + _ + (nativeFrameWords "java/lang/System" "arraycopy" 5 + 11) ≤ 80 * d
      have : nativeFrameWords "java/lang/System" "arraycopy" 5 ≤ 40 := by decide +kernel
      omega)
  have e1 : copied (arrV (G.2.1 2) n0 (fun j => Value.int (I q j))) (arrV (G.2.1 2) n1 (fun j => Value.int (I q' j))) sp dp n = arrV (G.2.1 2) n1 (fun j => .int (va_cpy (I q) (I q') sp.toNatClampNeg dp.toNatClampNeg n.toNatClampNeg j)) := va_copied (fun z => .int z) (G.2.1 2) (G.2.1 2) (I q) (I q') h4
  rw [e1] at X' step
  have hl2 : ad G q' < H.size := (Array.getElem?_eq_some_iff.mp hc1).1
  obtain ⟨cz, hcz⟩ : ∃ z, z = arrV (G.2.1 2) n1 (fun j => Value.int (va_cpy (I q) (I q') sp.toNatClampNeg dp.toNatClampNeg n.toNatClampNeg j)) := ⟨_, rfl⟩
  rw [← hcz] at X' step
  have hheap : ((T.setVm vm').setCell (ad G q') cz).heap = H.setIfInBounds (ad G q') cz := by rw [← hT]; rfl
  have oq : ∀ z : Nat, z ≠ ad G q' → (H.setIfInBounds (ad G q') cz)[z]? = H[z]? := fun z hz => by simp [Array.getElem?_setIfInBounds, Ne.symm hz]
  have self : (H.setIfInBounds (ad G q') cz)[ad G q']? = some cz := by simp [Array.getElem?_setIfInBounds, hl2]
  have hR' : Rep G (K, upr I q' (va_cpy (I q) (I q') sp.toNatClampNeg dp.toNatClampNeg n.toNatClampNeg), L, R, t) (H.setIfInBounds (ad G q') cz) := by
    refine Rep.set hR hp (fun z hz => by simp [upr, hz]) (fun _ _ => rfl) (fun _ _ => rfl) (by simp) oq ?_
    unfold cellA
    dsimp only
    rw [hK1]
    show (H.setIfInBounds (ad G q') cz)[ad G q']? = some (arrV _ _ _)
    rw [self, hcz]
    congr 2
    funext j
    simp [ev, upr]
  obtain ⟨t2, a1, b1⟩ := kk p l e s m args below meth c _ la _ cells slots mc ms G CC hS hL hR' ⟨by simp; exact hF.1, fun z z1 z2 => by
      rw [oq z (fun e => z2 (by rw [e]; exact aA_ad hp))]
      exact hF.2.1 z z1 z2, fun z hz => by
      rcases List.mem_append.mp hz with hz | hz
      · exact hF.2.2 z hz
      · obtain ⟨y, -, hy⟩ := List.mem_map.mp hz
        rw [← hy]
        exact aA_ad hp⟩ g1 g2 _ hheap X'
  exact ⟨t2, step t2 a1, b1⟩
/-! throwing -/
/-- 'throw new E()' of class own: its words -/
def LT (own : String) (ik ic : Nat) (E : String) (names : List String) : Prop := Bundle.fit E = true ∧ (∀ n ∈ names, Bundle.fit n = true) ∧ inT (.classLink own ik E) ∧ inT (.initialized E) ∧ (∀ w ∈ vx_at0 own ic E names, inT w) ∧ names.length ≤ 5
theorem a_throw {ik ic np1 np2 np3 : Nat} {w1 w2 w3 : Int32} {t0 t1 t2 t3 : Nat} {E : String} {names : List String} (h0 : look C pc = some (.new ik, np, t0, w)) (h3 : look C np = some (.dup, np1, t1, w1)) (h4 : look C np1 = some (.invokespecial ic, np2, t2, w2)) (h7 : look C np2 = some (.athrow, np3, t3, w3)) (hl : LT C.1.cls ik ic E names) (hh : C.2.2.2.2.1 = []) (hd10 : Nat.ble 10 d = true) (hst : Nat.ble (st.map fun v => v.category).sum 8 = true) (hk1 : Nat.ble 1 k1 = true) (hk2 : Nat.ble 6 k2 = true) (hX : X E (K, I, L, R, 0)) : AW S C d Q X k1 k2 pc ls st (K, I, L, R, t) := by
  intro p l e s m args below meth c H la locs cells slots mc ms G CC hS hL hR hF g1 g2
  have hO := CC.2.2.2.2.2.2.2.2.2
  obtain ⟨d0, rfl, -⟩ := okd hO h0 rfl
  obtain ⟨d3, rfl, -⟩ := okd hO h3 rfl
  obtain ⟨d4, rfl, -⟩ := okd hO h4 rfl
  obtain ⟨d7, -, -⟩ := okd hO h7 rfl
  have hd10 := Nat.le_of_ble_eq_true hd10
  have hst := Nat.le_of_ble_eq_true hst
  have hk1 := Nat.le_of_ble_eq_true hk1
  have hk2 := Nat.le_of_ble_eq_true hk2
  have tk : ∀ x, inT x → x.before args s = true := fun x hx => gT_ok hS _ (inT_gT hx)
  obtain ⟨l1, l2, l3, l4, l5, l6⟩ := hl
  refine vx_throw0 CC.1 CC.2.1 CC.2.2.2.2.2.2.2.1 CC.2.2.2.2.2.1 l1 l2 (tk _ l3) (tk _ l4) (fun w hw => tk w (l5 w hw)) (fun w hw => ?_) hS.2.2.2.1.1.1 hS.2.2.2.1.1.2 hF (hL.1.trans CC.2.2.2.2.1.symm) d0 d3 d4 d7 (fun x hx => by rw [CC.2.2.2.2.2.2.2.2.1, hh] at hx; cases hx) (by show _ < d; omega) (by rw [cat_map]; show _ ≤ 80 * d; omega) (by show cells + 1 ≤ mc; omega) (by show slots + 6 ≤ ms; omega) CC.2.2.2.1 (fun t' hA hz ho => ?_) hF.2.2 (by omega) (by omega)
  · unfold vx_ot
    rcases List.mem_cons.mp hw with rfl | hw
    · rw [l3.2]; simp
    · rcases List.mem_cons.mp hw with rfl | hw
      · rw [l4.2]; simp
      · rw [(l5 w hw).2]; simp
  · refine ⟨_, hX, ⟨fun q => ?_, hR.2.1, fun z => absurd (show 200 ≤ 0 from z) (by decide), Nat.le_trans hR.2.2.2 hz⟩, ?_⟩
    · refine cellA_congr (t := t) rfl rfl rfl (fun hk => ?_) (hR.1 q)
      have h9 := hR.1 q
      unfold cellA at h9
      dsimp only at h9
      rcases hkq : K q with ⟨a, b⟩
      rw [hkq] at h9 hk
      rcases a with _ | _ | a
      · exact absurd rfl hk
      · obtain ⟨r, r1, cell, r2, r3⟩ := h9
        exact ho _ (Array.getElem?_eq_some_iff.mp r2).1
      · have h6 : H[ad G q]? = some (arrV (G.2.1 (a + 2)) b (fun j => ev G I L R (a + 2) q j)) := h9
        exact ho _ (Array.getElem?_eq_some_iff.mp h6).1
    · exact ⟨Nat.le_trans hF.1 hz, fun q q1 q2 => (ho q (Nat.lt_of_lt_of_le q1 hF.1)).trans (hF.2.1 q q1 q2)⟩
end B1
end
section
/-! ===== the rules of AW: catching, inherited methods, switches ===== -/
section B2
variable {S : aS} {C C' : aM} {d d' : Nat} {Q Q' : Option Value → aH → Prop} {X X' : String → aH → Prop} {k1 k2 j1 j2 pc np tgt n : Nat} {w : Int32} {ls ls' : List (Option Value)} {st st' st0 : List Value} {h : aH} {ins : Instr} {As : List Value}
/-- a handler's row takes E, those ahead of it don't: their classes' names, by the pool -/
def hTake (S : aS) (C : aM) (pc : Nat) (E : String) : List (Nat × Nat × Nat × Nat) → Nat → Prop
  | [], _ => False
  | r :: rs, hpc => (r.1 ≤ pc ∧ pc < r.2.1 ∧ r.2.2.2 ≠ 0) ∧ ∃ nm, inT (.classLink C.1.cls r.2.2.2 nm) ∧ ((inT (.castable E nm) ∧ r.2.2.1 = hpc) ∨ ((E, nm) ∈ S.2.2.2.2.2 ∧ hTake S C pc E rs hpc))
theorem hTake_split {S : aS} {C : aM} {pc hpc : Nat} {E : String} {l : List (Nat × Nat × Nat × Nat)} (h : hTake S C pc E l hpc) : ∃ pre x suf nm, l = pre ++ x :: suf ∧ (x.1 ≤ pc ∧ pc < x.2.1 ∧ x.2.2.2 ≠ 0) ∧ x.2.2.1 = hpc ∧ inT (.classLink C.1.cls x.2.2.2 nm) ∧ inT (.castable E nm) ∧ ∀ z ∈ pre, z.2.2.2 ≠ 0 ∧ ∃ nm, inT (.classLink C.1.cls z.2.2.2 nm) ∧ (E, nm) ∈ S.2.2.2.2.2 := by
  induction l with
  | nil => exact False.elim h
  | cons r rs ih =>
    obtain ⟨h0, nm, h1, h2⟩ := h
    rcases h2 with ⟨h2, h3⟩ | ⟨h2, h3⟩
    · exact ⟨[], r, rs, nm, rfl, h0, h3, h1, h2, fun z hz => by cases hz⟩
    · obtain ⟨pre, x, suf, nm', e, g1, g2, g3, g4, g5⟩ := ih h3
      refine ⟨r :: pre, x, suf, nm', by rw [e]; rfl, g1, g2, g3, g4, fun z hz => ?_⟩
      rcases List.mem_cons.mp hz with rfl | hz
      · exact ⟨h0.2.2, nm, h1, h2⟩
      · exact g5 z hz
def lforget : List (Option Value) → Nat → List (Option Value)
  | [], _ => []
  | _ :: r, 0 => none :: r
  | a :: r, 1 => kill a :: lforget r 0
  | a :: r, n + 2 => a :: lforget r (n + 1)
theorem lg_lforget {ls : List (Option Value)} {i j : Nat} {x : Value} (h : lg (lforget ls i) j = some x) : j ≠ i ∧ lg ls j = some x ∧ ¬ (j + 1 = i ∧ x.category = 2) := by
  induction ls generalizing i j with
  | nil => simp [lforget, lg] at h
  | cons a r ih =>
    rcases i with _ | _ | i
    · rcases j with _ | j
      · simp [lforget, lg] at h
      · exact ⟨by omega, h, by omega⟩
    · rcases j with _ | j
      · simp only [lforget, lg] at h
        obtain ⟨h1, h2⟩ := kill_some h
        exact ⟨by omega, h1, by omega⟩
      · simp only [lforget, lg] at h
        obtain ⟨h1, h2, h3⟩ := ih h
        exact ⟨by omega, h2, by omega⟩
    · rcases j with _ | j
      · exact ⟨by omega, h, by omega⟩
      · simp only [lforget, lg] at h
        obtain ⟨h1, h2, h3⟩ := ih h
        exact ⟨by omega, h2, fun z => h3 ⟨by omega, z.2⟩⟩
/-- a method called within a handler's reach; the handler begins with the storing of what it caught -/
theorem a_callVc {idx q : Nat} (hC : look C pc = some (.invokevirtual idx, np, tgt, w)) (hl : LK C.1.cls idx C') (hM : MOv C' n) (hs : Sp S C' d' j1 j2 (.ref q :: As) h Q' X') (hn : As.length = n) (h0 : st0 = As.reverse ++ .ref q :: st) (ho : cOk d d' j1 j2 k1 k2 st = true) (hq : rcv h q C'.1.cls)
    (kr : ∀ v h', Q' v h' → AW S C d Q X (k1 - j1) (k2 - j2) np ls (v.toList ++ st) h')
    (kx : ∀ E h', X' E h' → ∃ (hpc : Nat) (ins2 : Instr) (np2 tgt2 : Nat) (w2 : Int32) (i : Nat), hTake S C pc E C.2.2.2.2.1 hpc ∧ look C hpc = some (ins2, np2, tgt2, w2) ∧ stI ins2 = some (i, 1) ∧ i < C.2.2.1 ∧ AW S C d Q X (k1 - j1) (k2 - j2) np2 (lforget ls i) [] h') : AW S C d Q X k1 k2 pc ls st0 h := by
  intro p l e s m args below meth c H la locs cells slots mc ms G CC hS hL hR hF h1 h2
  obtain ⟨hd, rfl, -⟩ := okd CC.2.2.2.2.2.2.2.2.2 hC rfl
  obtain ⟨g0, g1, g2, g3⟩ := cOk_spec ho
  subst h0
  have tk : ∀ x, inT x → x.before args s = true := fun x hx => gT_ok hS _ (inT_gT hx)
  have hr := vx_runV (R := rmD d mc ms) (p := p) (l := l) (e := e) (s := s) (m := m) (args := args) (below := below) (meth := meth) (c := c) (H := H) (locs := locs) (cells := cells) (slots := slots) (rest := st.map (mv G)) (g := F0 m pc la ((As.reverse ++ .ref q :: st).map (mv G))) (Ts := gT) (As := As.map (mv G)) (b := ad G q) ⟨CC.1, CC.2.1, CC.2.2.2.2.1, CC.2.2.2.2.2.1, gT_ok hS⟩ (hs l G CC.2.2.2.2.2.2.2.1) ⟨cb_of (mc := mc) (ms := ms) hS hM.1 hl g0, gT_ok hS _ (inT_gT hM.2.1), gT_ok hS _ (inT_gT hM.2.2)⟩ ⟨PcM.blind, rcv_of hS hR hq, pc_of (As := .ref q :: As) hS hR hF⟩ rfl (by simpa using hn) hL.1 (by simp [mv]) (lv_room (by rw [cat_map]; exact g3)) hd ⟨by show cells + j1 ≤ mc; omega, by show slots + j2 ≤ ms; omega⟩
  refine go_run hr hF (fun v h' H' locs' q1 q2 q3 => ?_) (fun E h' qe ce H' locs' q1 q2 q3 q4 q5 q6 => ?_)
  · have K := kr v h' q1 p l e s m args below meth c H' la locs' (cells + j1) (slots + j2) mc ms G CC hS hL q2 q3 (by omega) (by omega)
    have e1 : (v.toList ++ st).map (mv G) = (Option.map (mv G) v).toList ++ st.map (mv G) := by cases v <;> simp
    rw [e1] at K
    exact K
  · obtain ⟨hpc, ins2, np2, tgt2, w2, i, t1, t2, t3, t4, t5⟩ := kx E h' q1
    obtain ⟨pre, x, suf, nm, e1, e2, e3, e4, e5, e6⟩ := hTake_split t1
    have htab : c.exceptionTable.toList = tableOf pre ++ (⟨x.1, x.2.1, x.2.2.1, x.2.2.2⟩ : ExceptionTableEntry) :: tableOf suf := by
      rw [CC.2.2.2.2.2.2.2.2.1, e1]
      simp [tableOf]
    refine vx_catch CC.2.2.2.2.2.1 (tableOf pre) _ (tableOf suf) htab (fun z hz => ?_) (by simp [covers, e2.1, e2.2.1]) e2.2.2 (tk _ e4) (tk _ e5) q4 q5 q6 ?_
    · obtain ⟨y, hy, rfl⟩ := List.mem_map.mp hz
      obtain ⟨f1, nm', f2, f3⟩ := e6 y hy
      exact Or.inr ⟨f1, nm', tk _ f2, hS.2.2.2.2.2.1 _ f3⟩
    · rw [show (⟨x.1, x.2.1, x.2.2.1, x.2.2.2⟩ : ExceptionTableEntry).handlerPc = hpc from e3]
      have K : ∀ la', HL G la' C.2.2.1 (lforget ls i) → W p l e (rmD d mc ms) s m args below meth c H' locs' (cells + j1) (slots + j2) (vx_MQ below (QcM G Q) (XcM G X) args s mc ms (aA G)) (F0 m np2 la' ([].map (mv G))) := fun la' hla => t5 p l e s m args below meth c H' la' locs' (cells + j1) (slots + j2) mc ms G CC hS hla q2 q3 (by omega) (by omega)
      have hO := CC.2.2.2.2.2.2.2.2.2
      have hh := hL.has
      unfold stI at t3
      have fin : ∀ (la' : Array Slot), lv_has la' C.2.2.1 ((i, .ref qe) :: (llO G 0 ls).filter (fun q => !(q.1 == i) && !(q.1 + 1 == i && q.2.category == 2))) → HL G la' C.2.2.1 (lforget ls i) := by
        intro la' hla
        refine ⟨hla.1, hla.2.1, fun j y hj => ?_⟩
        obtain ⟨r1, r2, r3⟩ := lg_lforget hj
        refine hla.2.2 (j, mv G y) (List.mem_cons_of_mem _ (List.mem_filter.mpr ⟨llO_mem.mpr ⟨j, y, r2, by simp⟩, ?_⟩))
        simp only [Bool.and_eq_true, Bool.not_eq_true', beq_eq_false_iff_ne, ne_eq, Bool.and_eq_false_iff, mv_cat]
        refine ⟨r1, ?_⟩
        by_cases z : j + 1 = i
        · exact Or.inr fun y => r3 ⟨z, y⟩
        · exact Or.inl z
      split at t3 <;> first | (cases t3; done) | (cases t3; obtain ⟨hd2, rfl, -⟩ := okd hO t2 rfl)
      · exact lv_astore CC.1 CC.2.1 hd2 hh t4 rfl (fun la' z => K la' (fin la' z))
      · exact lv_astore_n CC.1 CC.2.1 hd2 rfl hh t4 rfl (fun la' z => K la' (fin la' z))
/-- a method found by the receiver's class: inherited, or of a class below -/
theorem a_callU {idx q : Nat} {x : MethodName} {owner cn : String} (hC : look C pc = some (.invokevirtual idx, np, tgt, w)) (hl : ∀ z ∈ [Cond.methodLink C.1.cls idx x, .sameMethod x.cls owner x.name x.desc, .selects cn x C'.1, .instanceMethod C'.1], inT z) (hdc : ∀ (G : aG) (s : State), SW S G s → va_Decl s ⟨owner, x.name, x.desc⟩) (hM : MO C' n) (hx : owner ≠ "java/lang/invoke/MethodHandle" ∧ owner ≠ "java/lang/invoke/VarHandle" ∧ (parseMethodDescriptor x.desc).map (fun d => d.parameters.length) = some n) (hs : Sp S C' d' j1 j2 (.ref q :: As) h Q' X') (hn : As.length = n) (h0 : st0 = As.reverse ++ .ref q :: st) (ho : cOk d d' j1 j2 k1 k2 st = true) (hq : rcv h q cn) (hh : C.2.2.2.2.1 = [])
    (kr : ∀ v h', Q' v h' → AW S C d Q X (k1 - j1) (k2 - j2) np ls (v.toList ++ st) h') (kx : ∀ E h', X' E h' → X E h') : AW S C d Q X k1 k2 pc ls st0 h := by
  intro p l e s m args below meth c H la locs cells slots mc ms G CC hS hL hR hF h1 h2
  obtain ⟨hd, rfl, -⟩ := okd CC.2.2.2.2.2.2.2.2.2 hC rfl
  obtain ⟨g0, g1, g2, g3⟩ := cOk_spec ho
  subst h0
  have tk : ∀ x, inT x → x.before args s = true := fun x hx => gT_ok hS _ (inT_gT hx)
  have hml := hM.2.2.2.2
  have hc : Cond.code C'.1 C'.2.1 C'.2.2.1 C'.2.2.2.1 ∈ [mW C'] := by rw [mW_code hM.1]; exact List.mem_cons_self
  have cu : va_CU (rmD d mc ms) s args C.1.cls cn owner idx x C'.1 C'.2.1 C'.2.2.1 C'.2.2.2.1 [mW C'] (rmD d' j1 j2) j1 j2 n := by
    refine ⟨⟨rfl, rfl, g0, ?_, pay_in (gT_ok (args := args) hS) (good_gT hM.ws), hc⟩, tk _ hM.2.1, tk _ hM.2.2.1, ⟨hx.1, hx.2.1⟩, fun sig hsig => ?_, tk _ (hl _ (by simp)), tk _ (hl _ (by simp)), hdc G s hS, tk _ (hl _ (by simp)), tk _ (hl _ (by simp))⟩
    · show 8 + (C'.2.2.1 + 11) + 80 * d' ≤ 80 * d
      omega
    · have h2 := hx.2.2
      rw [hsig] at h2
      exact (Option.some.inj h2).symm
  refine a_end CC hS hL hF h1 h2 g1 g2 hh (vx_runU (Ts := gT) (As := As.map (mv G)) (b := ad G q) ⟨CC.1, CC.2.1, CC.2.2.2.2.1, CC.2.2.2.2.2.1, gT_ok hS⟩ (hs l G CC.2.2.2.2.2.2.2.1) cu ⟨PcM.blind, rcv_of hS hR hq, pc_of (As := .ref q :: As) hS hR hF⟩ rfl (by simpa using hn) hL.1 (by simp [mv]) (lv_room (by rw [cat_map]; exact g3)) hd ⟨by show cells + j1 ≤ mc; omega, by show slots + j2 ≤ ms; omega⟩) kr kx
/-- a method of a constant object -/
theorem a_callK {idx q : Nat} (hC : look C pc = some (.invokevirtual idx, np, tgt, w)) (hl : LK C.1.cls idx C') (hM : MOv C' n) (hs : Sp S C' d' j1 j2 (.ref q :: As) h Q' X') (hn : As.length = n) (h0 : st0 = As.reverse ++ .ref q :: st) (ho : cOk d d' j1 j2 k1 k2 st = true) (hq : (q, C'.1.cls) ∈ S.2.1) (hh : C.2.2.2.2.1 = [])
    (kr : ∀ v h', Q' v h' → AW S C d Q X (k1 - j1) (k2 - j2) np ls (v.toList ++ st) h') (kx : ∀ E h', X' E h' → X E h') : AW S C d Q X k1 k2 pc ls st0 h := by
  intro p l e s m args below meth c H la locs cells slots mc ms G CC hS hL hR hF h1 h2
  obtain ⟨hd, rfl, -⟩ := okd CC.2.2.2.2.2.2.2.2.2 hC rfl
  obtain ⟨g0, g1, g2, g3⟩ := cOk_spec ho
  subst h0
  obtain ⟨cell, c1, c2, c3, c4⟩ := hS.2.2.2.1.2.2.1 _ hq
  have hrc : ∃ cellB : Cell, H[ad G q]? = some cellB ∧ cellB.vm.isStatics = false ∧ s.vm.findClass C'.1.cls = some cellB.cls := by
    refine ⟨cell, ?_, c2, c3⟩
    rw [hF.2.1 _ (Array.getElem?_eq_some_iff.mp c1).1 c4]
    exact c1
  refine a_end CC hS hL hF h1 h2 g1 g2 hh (vx_runV (Ts := gT) (As := As.map (mv G)) (b := ad G q) ⟨CC.1, CC.2.1, CC.2.2.2.2.1, CC.2.2.2.2.2.1, gT_ok hS⟩ (hs l G CC.2.2.2.2.2.2.2.1) ⟨cb_of hS hM.1 hl g0, gT_ok hS _ (inT_gT hM.2.1), gT_ok hS _ (inT_gT hM.2.2)⟩ ⟨PcM.blind, hrc, pc_of (As := .ref q :: As) hS hR hF⟩ rfl (by simpa using hn) hL.1 (by simp [mv]) (lv_room (by rw [cat_map]; exact g3)) hd ⟨by show cells + j1 ≤ mc; omega, by show slots + j2 ≤ ms; omega⟩) kr kx
/-! switches: the target by a program over the number -/
def swT (pc : Nat) (dflt lo hi : Int) (offs : Array Int) (x : Int) : Option Nat := if x < lo ∨ hi < x then some ((pc : Int) + dflt).toNat else (offs[(x - lo).toNat]?).map fun o => ((pc : Int) + o).toNat
theorem a_tsw {dflt lo hi : Int} {offs : Array Int} {x : Int32} {tg : Nat} (hC : look C pc = some (.tableswitch dflt lo hi offs, np, tgt, w)) (hT : swT pc dflt lo hi offs x.toInt = some tg) (hpos : 0 ≤ (pc : Int) + dflt ∧ ∀ o ∈ offs, 0 ≤ (pc : Int) + o) (kk : AW S C d Q X k1 k2 tg ls st h) : AW S C d Q X k1 k2 pc ls (.int x :: st) h := by
  intro p l e s m args below meth c H la locs cells slots mc ms G CC hS hL hR hF h1 h2
  have hd := (CC.2.2.2.2.2.2.2.2.2 _ _ hC).2.1
  have K := kk p l e s m args below meth c H la locs cells slots mc ms G CC hS hL hR hF h1 h2
  unfold swT at hT
  by_cases hx : x.toInt < lo ∨ hi < x.toInt
  · rw [if_pos hx] at hT
    cases hT
    exact lv_tableOut CC.1 CC.2.1 hd hx (by have := hpos.1; omega) K
  · rw [if_neg hx] at hT
    cases ho : offs[(x.toInt - lo).toNat]? with
    | none => rw [ho] at hT; cases hT
    | some o =>
      rw [ho] at hT
      cases hT
      exact lv_tableIn CC.1 CC.2.1 hd (fun z => hx (Or.inl z)) (fun z => hx (Or.inr z)) ho (by have h7 := hpos.2 o (Array.mem_of_getElem? ho); show (pc : Int) + o = (((pc : Int) + o).toNat : Int); omega) K
theorem a_lsw {dflt : Int} {ps : Array (Int × Int)} {x : Int32} {tg : Nat} (hC : look C pc = some (.lookupswitch dflt ps, np, tgt, w)) (hp : (ps.toList.zip (ps.toList.drop 1)).all (fun (a, next) => a.1 < next.1) = true) (hT : (pc : Int) + Op.lookupswitch.offset ps.toList dflt x.toInt = (tg : Int)) (kk : AW S C d Q X k1 k2 tg ls st h) : AW S C d Q X k1 k2 pc ls (.int x :: st) h := by
  intro p l e s m args below meth c H la locs cells slots mc ms G CC hS hL hR hF h1 h2
  have hd := (CC.2.2.2.2.2.2.2.2.2 _ _ hC).2.1
  exact lv_lookup CC.1 CC.2.1 hd hp rfl hT (kk p l e s m args below meth c H la locs cells slots mc ms G CC hS hL hR hF h1 h2)
end B2
end
section
/-! ===== links, printed by program out of the tables ===== -/
theorem inT1 {w : Cond} {i : Nat} (h : tables_1[i]? = some w) (g : goodWord w = true) : inT w := ⟨List.mem_append_right _ (List.mem_of_getElem? h), g⟩
theorem inT2 {w : Cond} {i : Nat} (h : (k2_sels lw_privs)[i]? = some w) (g : goodWord w = true) : inT w := ⟨List.mem_append_left _ (List.mem_of_getElem? h), g⟩
theorem inT0 {w : Cond} {i : Nat} (h : tables_1[i]? = some w) : w ∈ lw_tbl := List.mem_append_right _ (List.mem_of_getElem? h)
theorem aok_0 : aOk ((RX0, TX0, 2), tyX0) := ⟨by decide +kernel, nmX0, tyX0_ok⟩
theorem aok_1 : aOk ((RX1, TX1, 3), tyX1) := ⟨by decide +kernel, nmX1, tyX1_ok⟩
theorem aok_2 : aOk ((RX2, TX2, 9), tyX2) := ⟨by decide +kernel, nmX2, tyX2_ok⟩
theorem aok_3 : aOk ((RX3, TX3, 6), tyX3) := ⟨by decide +kernel, nmX3, tyX3_ok⟩
theorem aok_5 : aOk ((RX5, TX5, 18), tyX5) := ⟨by decide +kernel, nmX5, tyX5_ok⟩
theorem aok_6 : aOk ((RX6, TX6, 3), tyX6) := ⟨by decide +kernel, nmX6, tyX6_ok⟩
theorem aok_7 : aOk ((RX7, TX7, 2), tyX7) := ⟨by decide +kernel, nmX7, tyX7_ok⟩
theorem aok_9 : aOk ((RX9, TX9, 10), tyX9) := ⟨by decide +kernel, nmX9, tyX9_ok⟩
theorem aok_11 : aOk ((RX11, TX11, 14), tyX11) := ⟨by decide +kernel, nmX11, tyX11_ok⟩
theorem aok_12 : aOk ((RX12, TX12, 20), tyX12) := ⟨by decide +kernel, nmX12, tyX12_ok⟩
theorem fX11_10_11 : LF RX11 10 11 0 ((RX11, TX11, 14), tyX11) := ⟨rfl, aok_11, by decide, RX11, inT0 (i := 317) (by decide +kernel), Or.inl rfl⟩
theorem gfX11_10_11 : LFr RX11 10 11 0 := ⟨_, fX11_10_11, rfl⟩
theorem pfX11_10_11 : LPr RX11 "<init>" 10 11 0 := ⟨_, ⟨fX11_10_11, Or.inr ⟨rfl, rfl, rfl⟩⟩, rfl⟩
theorem fX11_19_11 : LF RX11 19 11 1 ((RX11, TX11, 14), tyX11) := ⟨rfl, aok_11, by decide, RX11, inT0 (i := 318) (by decide +kernel), Or.inl rfl⟩
theorem gfX11_19_11 : LFr RX11 19 11 1 := ⟨_, fX11_19_11, rfl⟩
theorem pfX11_19_11 : LPr RX11 "<init>" 19 11 1 := ⟨_, ⟨fX11_19_11, Or.inr ⟨rfl, rfl, rfl⟩⟩, rfl⟩
theorem fX11_26_11 : LF RX11 26 11 2 ((RX11, TX11, 14), tyX11) := ⟨rfl, aok_11, by decide, RX11, inT0 (i := 319) (by decide +kernel), Or.inl rfl⟩
theorem gfX11_26_11 : LFr RX11 26 11 2 := ⟨_, fX11_26_11, rfl⟩
theorem pfX11_26_11 : LPr RX11 "<init>" 26 11 2 := ⟨_, ⟨fX11_26_11, Or.inr ⟨rfl, rfl, rfl⟩⟩, rfl⟩
theorem fX11_30_11 : LF RX11 30 11 3 ((RX11, TX11, 14), tyX11) := ⟨rfl, aok_11, by decide, RX11, inT0 (i := 320) (by decide +kernel), Or.inl rfl⟩
theorem gfX11_30_11 : LFi RX11 30 11 3 := ⟨_, fX11_30_11, rfl⟩
theorem pfX11_30_11 {nm : String} : LPi RX11 nm 30 11 3 := ⟨_, ⟨fX11_30_11, Or.inl rfl⟩, rfl⟩
theorem fX11_37_11 : LF RX11 37 11 4 ((RX11, TX11, 14), tyX11) := ⟨rfl, aok_11, by decide, RX11, inT0 (i := 321) (by decide +kernel), Or.inl rfl⟩
theorem gfX11_37_11 : LFr RX11 37 11 4 := ⟨_, fX11_37_11, rfl⟩
theorem pfX11_37_11 : LPr RX11 "<init>" 37 11 4 := ⟨_, ⟨fX11_37_11, Or.inr ⟨rfl, rfl, rfl⟩⟩, rfl⟩
theorem fX11_44_11 : LF RX11 44 11 5 ((RX11, TX11, 14), tyX11) := ⟨rfl, aok_11, by decide, RX11, inT0 (i := 322) (by decide +kernel), Or.inl rfl⟩
theorem gfX11_44_11 : LFr RX11 44 11 5 := ⟨_, fX11_44_11, rfl⟩
theorem pfX11_44_11 : LPr RX11 "<init>" 44 11 5 := ⟨_, ⟨fX11_44_11, Or.inr ⟨rfl, rfl, rfl⟩⟩, rfl⟩
theorem fX11_51_11 : LF RX11 51 11 6 ((RX11, TX11, 14), tyX11) := ⟨rfl, aok_11, by decide, RX11, inT0 (i := 323) (by decide +kernel), Or.inl rfl⟩
theorem gfX11_51_11 : LFr RX11 51 11 6 := ⟨_, fX11_51_11, rfl⟩
theorem pfX11_51_11 : LPr RX11 "<init>" 51 11 6 := ⟨_, ⟨fX11_51_11, Or.inr ⟨rfl, rfl, rfl⟩⟩, rfl⟩
theorem fX11_55_11 : LF RX11 55 11 7 ((RX11, TX11, 14), tyX11) := ⟨rfl, aok_11, by decide, RX11, inT0 (i := 324) (by decide +kernel), Or.inl rfl⟩
theorem gfX11_55_11 : LFr RX11 55 11 7 := ⟨_, fX11_55_11, rfl⟩
theorem pfX11_55_11 : LPr RX11 "<init>" 55 11 7 := ⟨_, ⟨fX11_55_11, Or.inr ⟨rfl, rfl, rfl⟩⟩, rfl⟩
theorem fX11_58_11 : LF RX11 58 11 8 ((RX11, TX11, 14), tyX11) := ⟨rfl, aok_11, by decide, RX11, inT0 (i := 325) (by decide +kernel), Or.inl rfl⟩
theorem gfX11_58_11 : LFr RX11 58 11 8 := ⟨_, fX11_58_11, rfl⟩
theorem pfX11_58_11 : LPr RX11 "<init>" 58 11 8 := ⟨_, ⟨fX11_58_11, Or.inr ⟨rfl, rfl, rfl⟩⟩, rfl⟩
theorem fX11_61_11 : LF RX11 61 11 9 ((RX11, TX11, 14), tyX11) := ⟨rfl, aok_11, by decide, RX11, inT0 (i := 326) (by decide +kernel), Or.inl rfl⟩
theorem gfX11_61_11 : LFr RX11 61 11 9 := ⟨_, fX11_61_11, rfl⟩
theorem pfX11_61_11 : LPr RX11 "<init>" 61 11 9 := ⟨_, ⟨fX11_61_11, Or.inr ⟨rfl, rfl, rfl⟩⟩, rfl⟩
theorem fX11_64_11 : LF RX11 64 11 11 ((RX11, TX11, 14), tyX11) := ⟨rfl, aok_11, by decide, RX11, inT0 (i := 328) (by decide +kernel), Or.inl rfl⟩
theorem gfX11_64_11 : LFr RX11 64 11 11 := ⟨_, fX11_64_11, rfl⟩
theorem pfX11_64_11 : LPr RX11 "<init>" 64 11 11 := ⟨_, ⟨fX11_64_11, Or.inr ⟨rfl, rfl, rfl⟩⟩, rfl⟩
theorem fX11_68_7 : LF RX11 68 7 1 ((RX7, TX7, 2), tyX7) := ⟨rfl, aok_7, by decide, RX7, inT0 (i := 45) (by decide +kernel), Or.inl rfl⟩
theorem gfX11_68_7 : LFi RX11 68 7 1 := ⟨_, fX11_68_7, rfl⟩
theorem pfX11_68_7 {nm : String} : LPi RX11 nm 68 7 1 := ⟨_, ⟨fX11_68_7, Or.inl rfl⟩, rfl⟩
theorem fX11_75_6 : LF RX11 75 6 2 ((RX6, TX6, 3), tyX6) := ⟨rfl, aok_6, by decide, RX6, inT0 (i := 228) (by decide +kernel), Or.inl rfl⟩
theorem gfX11_75_6 : LFr RX11 75 6 2 := ⟨_, fX11_75_6, rfl⟩
theorem fX11_89_5 : LF RX11 89 5 16 ((RX5, TX5, 18), tyX5) := ⟨rfl, aok_5, by decide, RX5, inT0 (i := 187) (by decide +kernel), Or.inl rfl⟩
theorem gfX11_89_5 : LFi RX11 89 5 16 := ⟨_, fX11_89_5, rfl⟩
theorem pfX11_89_5 {nm : String} : LPi RX11 nm 89 5 16 := ⟨_, ⟨fX11_89_5, Or.inl rfl⟩, rfl⟩
theorem fX11_95_11 : LF RX11 95 11 13 ((RX11, TX11, 14), tyX11) := ⟨rfl, aok_11, by decide, RX11, inT0 (i := 330) (by decide +kernel), Or.inl rfl⟩
theorem gfX11_95_11 : LFi RX11 95 11 13 := ⟨_, fX11_95_11, rfl⟩
theorem pfX11_95_11 {nm : String} : LPi RX11 nm 95 11 13 := ⟨_, ⟨fX11_95_11, Or.inl rfl⟩, rfl⟩
theorem fX11_98_3 : LF RX11 98 3 2 ((RX3, TX3, 6), tyX3) := ⟨rfl, aok_3, by decide, RX3, inT0 (i := 284) (by decide +kernel), Or.inl rfl⟩
theorem gfX11_98_3 : LFr RX11 98 3 2 := ⟨_, fX11_98_3, rfl⟩
theorem fX11_107_2 : LF RX11 107 2 0 ((RX2, TX2, 9), tyX2) := ⟨rfl, aok_2, by decide, RX2, inT0 (i := 255) (by decide +kernel), Or.inl rfl⟩
theorem gfX11_107_2 : LFi RX11 107 2 0 := ⟨_, fX11_107_2, rfl⟩
theorem fX11_113_5 : LF RX11 113 5 1 ((RX5, TX5, 18), tyX5) := ⟨rfl, aok_5, by decide, RX5, inT0 (i := 135) (by decide +kernel), Or.inl rfl⟩
theorem gfX11_113_5 : LFr RX11 113 5 1 := ⟨_, fX11_113_5, rfl⟩
theorem fX11_121_5 : LF RX11 121 5 2 ((RX5, TX5, 18), tyX5) := ⟨rfl, aok_5, by decide, RX5, inT0 (i := 139) (by decide +kernel), Or.inl rfl⟩
theorem gfX11_121_5 : LFr RX11 121 5 2 := ⟨_, fX11_121_5, rfl⟩
theorem fX11_144_5 : LF RX11 144 5 4 ((RX5, TX5, 18), tyX5) := ⟨rfl, aok_5, by decide, RX5, inT0 (i := 148) (by decide +kernel), Or.inl rfl⟩
theorem gfX11_144_5 : LFr RX11 144 5 4 := ⟨_, fX11_144_5, rfl⟩
theorem fX11_147_5 : LF RX11 147 5 5 ((RX5, TX5, 18), tyX5) := ⟨rfl, aok_5, by decide, RX5, inT0 (i := 153) (by decide +kernel), Or.inl rfl⟩
theorem gfX11_147_5 : LFr RX11 147 5 5 := ⟨_, fX11_147_5, rfl⟩
theorem fX11_150_5 : LF RX11 150 5 6 ((RX5, TX5, 18), tyX5) := ⟨rfl, aok_5, by decide, RX5, inT0 (i := 157) (by decide +kernel), Or.inl rfl⟩
theorem gfX11_150_5 : LFr RX11 150 5 6 := ⟨_, fX11_150_5, rfl⟩
theorem fX11_153_5 : LF RX11 153 5 7 ((RX5, TX5, 18), tyX5) := ⟨rfl, aok_5, by decide, RX5, inT0 (i := 159) (by decide +kernel), Or.inl rfl⟩
theorem gfX11_153_5 : LFr RX11 153 5 7 := ⟨_, fX11_153_5, rfl⟩
theorem fX11_156_5 : LF RX11 156 5 8 ((RX5, TX5, 18), tyX5) := ⟨rfl, aok_5, by decide, RX5, inT0 (i := 164) (by decide +kernel), Or.inl rfl⟩
theorem gfX11_156_5 : LFr RX11 156 5 8 := ⟨_, fX11_156_5, rfl⟩
theorem fX11_159_5 : LF RX11 159 5 9 ((RX5, TX5, 18), tyX5) := ⟨rfl, aok_5, by decide, RX5, inT0 (i := 167) (by decide +kernel), Or.inl rfl⟩
theorem gfX11_159_5 : LFr RX11 159 5 9 := ⟨_, fX11_159_5, rfl⟩
theorem fX11_179_5 : LF RX11 179 5 0 ((RX5, TX5, 18), tyX5) := ⟨rfl, aok_5, by decide, RX5, inT0 (i := 133) (by decide +kernel), Or.inl rfl⟩
theorem gfX11_179_5 : LFi RX11 179 5 0 := ⟨_, fX11_179_5, rfl⟩
theorem fX11_182_5 : LF RX11 182 5 3 ((RX5, TX5, 18), tyX5) := ⟨rfl, aok_5, by decide, RX5, inT0 (i := 145) (by decide +kernel), Or.inl rfl⟩
theorem gfX11_182_5 : LFi RX11 182 5 3 := ⟨_, fX11_182_5, rfl⟩
theorem fX11_185_5 : LF RX11 185 5 10 ((RX5, TX5, 18), tyX5) := ⟨rfl, aok_5, by decide, RX5, inT0 (i := 170) (by decide +kernel), Or.inl rfl⟩
theorem gfX11_185_5 : LFi RX11 185 5 10 := ⟨_, fX11_185_5, rfl⟩
theorem fX11_188_5 : LF RX11 188 5 11 ((RX5, TX5, 18), tyX5) := ⟨rfl, aok_5, by decide, RX5, inT0 (i := 174) (by decide +kernel), Or.inl rfl⟩
theorem gfX11_188_5 : LFi RX11 188 5 11 := ⟨_, fX11_188_5, rfl⟩
theorem fX11_191_5 : LF RX11 191 5 12 ((RX5, TX5, 18), tyX5) := ⟨rfl, aok_5, by decide, RX5, inT0 (i := 177) (by decide +kernel), Or.inl rfl⟩
theorem gfX11_191_5 : LFi RX11 191 5 12 := ⟨_, fX11_191_5, rfl⟩
theorem fX11_194_5 : LF RX11 194 5 13 ((RX5, TX5, 18), tyX5) := ⟨rfl, aok_5, by decide, RX5, inT0 (i := 180) (by decide +kernel), Or.inl rfl⟩
theorem gfX11_194_5 : LFi RX11 194 5 13 := ⟨_, fX11_194_5, rfl⟩
theorem fX11_197_5 : LF RX11 197 5 14 ((RX5, TX5, 18), tyX5) := ⟨rfl, aok_5, by decide, RX5, inT0 (i := 183) (by decide +kernel), Or.inl rfl⟩
theorem gfX11_197_5 : LFi RX11 197 5 14 := ⟨_, fX11_197_5, rfl⟩
theorem fX11_211_5 : LF RX11 211 5 17 ((RX5, TX5, 18), tyX5) := ⟨rfl, aok_5, by decide, RX5, inT0 (i := 189) (by decide +kernel), Or.inl rfl⟩
theorem gfX11_211_5 : LFr RX11 211 5 17 := ⟨_, fX11_211_5, rfl⟩
theorem fX11_215_1 : LF RX11 215 1 0 ((RX1, TX1, 3), tyX1) := ⟨rfl, aok_1, by decide, RX1, inT0 (i := 121) (by decide +kernel), Or.inl rfl⟩
theorem gfX11_215_1 : LFi RX11 215 1 0 := ⟨_, fX11_215_1, rfl⟩
theorem fX11_353_5 : LF RX11 353 5 15 ((RX5, TX5, 18), tyX5) := ⟨rfl, aok_5, by decide, RX5, inT0 (i := 185) (by decide +kernel), Or.inl rfl⟩
theorem gfX11_353_5 : LFi RX11 353 5 15 := ⟨_, fX11_353_5, rfl⟩
theorem pfX11_353_5 {nm : String} : LPi RX11 nm 353 5 15 := ⟨_, ⟨fX11_353_5, Or.inl rfl⟩, rfl⟩
theorem fX11_368_11 : LF RX11 368 11 12 ((RX11, TX11, 14), tyX11) := ⟨rfl, aok_11, by decide, RX11, inT0 (i := 329) (by decide +kernel), Or.inl rfl⟩
theorem gfX11_368_11 : LFi RX11 368 11 12 := ⟨_, fX11_368_11, rfl⟩
theorem pfX11_368_11 {nm : String} : LPi RX11 nm 368 11 12 := ⟨_, ⟨fX11_368_11, Or.inl rfl⟩, rfl⟩
theorem fX11_378_11 : LF RX11 378 11 10 ((RX11, TX11, 14), tyX11) := ⟨rfl, aok_11, by decide, RX11, inT0 (i := 327) (by decide +kernel), Or.inl rfl⟩
theorem gfX11_378_11 : LFi RX11 378 11 10 := ⟨_, fX11_378_11, rfl⟩
theorem pfX11_378_11 {nm : String} : LPz RX11 nm 378 11 10 := ⟨_, ⟨fX11_378_11, Or.inl rfl⟩, rfl⟩
theorem fX0_9_0 : LF RX0 9 0 0 ((RX0, TX0, 2), tyX0) := ⟨rfl, aok_0, by decide, RX0, inT0 (i := 309) (by decide +kernel), Or.inl rfl⟩
theorem gfX0_9_0 : LFr RX0 9 0 0 := ⟨_, fX0_9_0, rfl⟩
theorem pfX0_9_0 : LPr RX0 "<init>" 9 0 0 := ⟨_, ⟨fX0_9_0, Or.inr ⟨rfl, rfl, rfl⟩⟩, rfl⟩
theorem fX0_15_0 : LF RX0 15 0 1 ((RX0, TX0, 2), tyX0) := ⟨rfl, aok_0, by decide, RX0, inT0 (i := 310) (by decide +kernel), Or.inl rfl⟩
theorem gfX0_15_0 : LFr RX0 15 0 1 := ⟨_, fX0_15_0, rfl⟩
theorem pfX0_15_0 : LPr RX0 "<init>" 15 0 1 := ⟨_, ⟨fX0_15_0, Or.inr ⟨rfl, rfl, rfl⟩⟩, rfl⟩
theorem fX0_24_5 : LF RX0 24 5 3 ((RX5, TX5, 18), tyX5) := ⟨rfl, aok_5, by decide, RX5, inT0 (i := 140) (by decide +kernel), Or.inl rfl⟩
theorem gfX0_24_5 : LFi RX0 24 5 3 := ⟨_, fX0_24_5, rfl⟩
theorem fX0_49_5 : LF RX0 49 5 4 ((RX5, TX5, 18), tyX5) := ⟨rfl, aok_5, by decide, RX5, inT0 (i := 147) (by decide +kernel), Or.inl rfl⟩
theorem gfX0_49_5 : LFr RX0 49 5 4 := ⟨_, fX0_49_5, rfl⟩
theorem fX0_68_5 : LF RX0 68 5 5 ((RX5, TX5, 18), tyX5) := ⟨rfl, aok_5, by decide, RX5, inT0 (i := 151) (by decide +kernel), Or.inl rfl⟩
theorem gfX0_68_5 : LFr RX0 68 5 5 := ⟨_, fX0_68_5, rfl⟩
theorem fX0_81_5 : LF RX0 81 5 8 ((RX5, TX5, 18), tyX5) := ⟨rfl, aok_5, by decide, RX5, inT0 (i := 163) (by decide +kernel), Or.inl rfl⟩
theorem gfX0_81_5 : LFr RX0 81 5 8 := ⟨_, fX0_81_5, rfl⟩
theorem fX0_94_5 : LF RX0 94 5 2 ((RX5, TX5, 18), tyX5) := ⟨rfl, aok_5, by decide, RX5, inT0 (i := 138) (by decide +kernel), Or.inl rfl⟩
theorem gfX0_94_5 : LFr RX0 94 5 2 := ⟨_, fX0_94_5, rfl⟩
theorem fX1_11_1 : LF RX1 11 1 2 ((RX1, TX1, 3), tyX1) := ⟨rfl, aok_1, by decide, RX1, inT0 (i := 123) (by decide +kernel), Or.inl rfl⟩
theorem gfX1_11_1 : LFr RX1 11 1 2 := ⟨_, fX1_11_1, rfl⟩
theorem pfX1_11_1 : LPr RX1 "<init>" 11 1 2 := ⟨_, ⟨fX1_11_1, Or.inr ⟨rfl, rfl, rfl⟩⟩, rfl⟩
theorem fX1_15_1 : LF RX1 15 1 0 ((RX1, TX1, 3), tyX1) := ⟨rfl, aok_1, by decide, RX1, inT0 (i := 120) (by decide +kernel), Or.inl rfl⟩
theorem gfX1_15_1 : LFi RX1 15 1 0 := ⟨_, fX1_15_1, rfl⟩
theorem pfX1_15_1 {nm : String} : LPi RX1 nm 15 1 0 := ⟨_, ⟨fX1_15_1, Or.inl rfl⟩, rfl⟩
theorem fX1_19_1 : LF RX1 19 1 1 ((RX1, TX1, 3), tyX1) := ⟨rfl, aok_1, by decide, RX1, inT0 (i := 122) (by decide +kernel), Or.inl rfl⟩
theorem gfX1_19_1 : LFi RX1 19 1 1 := ⟨_, fX1_19_1, rfl⟩
theorem pfX1_19_1 {nm : String} : LPi RX1 nm 19 1 1 := ⟨_, ⟨fX1_19_1, Or.inl rfl⟩, rfl⟩
theorem fX2_11_2 : LF RX2 11 2 0 ((RX2, TX2, 9), tyX2) := ⟨rfl, aok_2, by decide, RX2, inT0 (i := 254) (by decide +kernel), Or.inl rfl⟩
theorem gfX2_11_2 : LFi RX2 11 2 0 := ⟨_, fX2_11_2, rfl⟩
theorem pfX2_11_2 {nm : String} : LPi RX2 nm 11 2 0 := ⟨_, ⟨fX2_11_2, Or.inl rfl⟩, rfl⟩
theorem fX2_15_2 : LF RX2 15 2 2 ((RX2, TX2, 9), tyX2) := ⟨rfl, aok_2, by decide, RX2, inT0 (i := 257) (by decide +kernel), Or.inl rfl⟩
theorem gfX2_15_2 : LFr RX2 15 2 2 := ⟨_, fX2_15_2, rfl⟩
theorem pfX2_15_2 : LPr RX2 "<init>" 15 2 2 := ⟨_, ⟨fX2_15_2, Or.inr ⟨rfl, rfl, rfl⟩⟩, rfl⟩
theorem fX2_19_2 : LF RX2 19 2 3 ((RX2, TX2, 9), tyX2) := ⟨rfl, aok_2, by decide, RX2, inT0 (i := 258) (by decide +kernel), Or.inl rfl⟩
theorem gfX2_19_2 : LFr RX2 19 2 3 := ⟨_, fX2_19_2, rfl⟩
theorem pfX2_19_2 : LPr RX2 "<init>" 19 2 3 := ⟨_, ⟨fX2_19_2, Or.inr ⟨rfl, rfl, rfl⟩⟩, rfl⟩
theorem fX2_22_2 : LF RX2 22 2 4 ((RX2, TX2, 9), tyX2) := ⟨rfl, aok_2, by decide, RX2, inT0 (i := 259) (by decide +kernel), Or.inl rfl⟩
theorem gfX2_22_2 : LFr RX2 22 2 4 := ⟨_, fX2_22_2, rfl⟩
theorem pfX2_22_2 : LPr RX2 "<init>" 22 2 4 := ⟨_, ⟨fX2_22_2, Or.inr ⟨rfl, rfl, rfl⟩⟩, rfl⟩
theorem fX2_25_2 : LF RX2 25 2 5 ((RX2, TX2, 9), tyX2) := ⟨rfl, aok_2, by decide, RX2, inT0 (i := 260) (by decide +kernel), Or.inl rfl⟩
theorem gfX2_25_2 : LFr RX2 25 2 5 := ⟨_, fX2_25_2, rfl⟩
theorem pfX2_25_2 : LPr RX2 "<init>" 25 2 5 := ⟨_, ⟨fX2_25_2, Or.inr ⟨rfl, rfl, rfl⟩⟩, rfl⟩
theorem fX2_28_2 : LF RX2 28 2 6 ((RX2, TX2, 9), tyX2) := ⟨rfl, aok_2, by decide, RX2, inT0 (i := 261) (by decide +kernel), Or.inl rfl⟩
theorem gfX2_28_2 : LFr RX2 28 2 6 := ⟨_, fX2_28_2, rfl⟩
theorem pfX2_28_2 : LPr RX2 "<init>" 28 2 6 := ⟨_, ⟨fX2_28_2, Or.inr ⟨rfl, rfl, rfl⟩⟩, rfl⟩
theorem fX2_31_2 : LF RX2 31 2 7 ((RX2, TX2, 9), tyX2) := ⟨rfl, aok_2, by decide, RX2, inT0 (i := 262) (by decide +kernel), Or.inl rfl⟩
theorem gfX2_31_2 : LFr RX2 31 2 7 := ⟨_, fX2_31_2, rfl⟩
theorem pfX2_31_2 : LPr RX2 "<init>" 31 2 7 := ⟨_, ⟨fX2_31_2, Or.inr ⟨rfl, rfl, rfl⟩⟩, rfl⟩
theorem fX2_34_2 : LF RX2 34 2 8 ((RX2, TX2, 9), tyX2) := ⟨rfl, aok_2, by decide, RX2, inT0 (i := 263) (by decide +kernel), Or.inl rfl⟩
theorem gfX2_34_2 : LFr RX2 34 2 8 := ⟨_, fX2_34_2, rfl⟩
theorem pfX2_34_2 : LPr RX2 "<init>" 34 2 8 := ⟨_, ⟨fX2_34_2, Or.inr ⟨rfl, rfl, rfl⟩⟩, rfl⟩
theorem fX2_41_2 : LF RX2 41 2 1 ((RX2, TX2, 9), tyX2) := ⟨rfl, aok_2, by decide, RX2, inT0 (i := 256) (by decide +kernel), Or.inl rfl⟩
theorem gfX2_41_2 : LFi RX2 41 2 1 := ⟨_, fX2_41_2, rfl⟩
theorem pfX2_41_2 {nm : String} : LPi RX2 nm 41 2 1 := ⟨_, ⟨fX2_41_2, Or.inl rfl⟩, rfl⟩
theorem fX2_56_5 : LF RX2 56 5 6 ((RX5, TX5, 18), tyX5) := ⟨rfl, aok_5, by decide, RX5, inT0 (i := 156) (by decide +kernel), Or.inl rfl⟩
theorem gfX2_56_5 : LFr RX2 56 5 6 := ⟨_, fX2_56_5, rfl⟩
theorem fX2_71_5 : LF RX2 71 5 3 ((RX5, TX5, 18), tyX5) := ⟨rfl, aok_5, by decide, RX5, inT0 (i := 144) (by decide +kernel), Or.inl rfl⟩
theorem gfX2_71_5 : LFi RX2 71 5 3 := ⟨_, fX2_71_5, rfl⟩
theorem fX2_82_5 : LF RX2 82 5 7 ((RX5, TX5, 18), tyX5) := ⟨rfl, aok_5, by decide, RX5, inT0 (i := 160) (by decide +kernel), Or.inl rfl⟩
theorem gfX2_82_5 : LFr RX2 82 5 7 := ⟨_, fX2_82_5, rfl⟩
theorem fX2_85_5 : LF RX2 85 5 4 ((RX5, TX5, 18), tyX5) := ⟨rfl, aok_5, by decide, RX5, inT0 (i := 149) (by decide +kernel), Or.inl rfl⟩
theorem gfX2_85_5 : LFr RX2 85 5 4 := ⟨_, fX2_85_5, rfl⟩
theorem fX2_92_5 : LF RX2 92 5 5 ((RX5, TX5, 18), tyX5) := ⟨rfl, aok_5, by decide, RX5, inT0 (i := 154) (by decide +kernel), Or.inl rfl⟩
theorem gfX2_92_5 : LFr RX2 92 5 5 := ⟨_, fX2_92_5, rfl⟩
theorem fX2_95_5 : LF RX2 95 5 1 ((RX5, TX5, 18), tyX5) := ⟨rfl, aok_5, by decide, RX5, inT0 (i := 136) (by decide +kernel), Or.inl rfl⟩
theorem gfX2_95_5 : LFr RX2 95 5 1 := ⟨_, fX2_95_5, rfl⟩
theorem fX2_98_5 : LF RX2 98 5 10 ((RX5, TX5, 18), tyX5) := ⟨rfl, aok_5, by decide, RX5, inT0 (i := 171) (by decide +kernel), Or.inl rfl⟩
theorem gfX2_98_5 : LFi RX2 98 5 10 := ⟨_, fX2_98_5, rfl⟩
theorem fX3_14_3 : LF RX3 14 3 2 ((RX3, TX3, 6), tyX3) := ⟨rfl, aok_3, by decide, RX3, inT0 (i := 283) (by decide +kernel), Or.inl rfl⟩
theorem gfX3_14_3 : LFr RX3 14 3 2 := ⟨_, fX3_14_3, rfl⟩
theorem pfX3_14_3 : LPr RX3 "<init>" 14 3 2 := ⟨_, ⟨fX3_14_3, Or.inr ⟨rfl, rfl, rfl⟩⟩, rfl⟩
theorem fX3_20_3 : LF RX3 20 3 3 ((RX3, TX3, 6), tyX3) := ⟨rfl, aok_3, by decide, RX3, inT0 (i := 285) (by decide +kernel), Or.inl rfl⟩
theorem gfX3_20_3 : LFr RX3 20 3 3 := ⟨_, fX3_20_3, rfl⟩
theorem pfX3_20_3 : LPr RX3 "<init>" 20 3 3 := ⟨_, ⟨fX3_20_3, Or.inr ⟨rfl, rfl, rfl⟩⟩, rfl⟩
theorem fX3_28_3 : LF RX3 28 3 0 ((RX3, TX3, 6), tyX3) := ⟨rfl, aok_3, by decide, RX3, inT0 (i := 232) (by decide +kernel), Or.inr (inT0 (i := 233) (by decide +kernel))⟩
theorem gfX3_28_3 : LFr RX3 28 3 0 := ⟨_, fX3_28_3, rfl⟩
theorem wX3_42 : inT (.fieldLink RX3 42 "PutOffParade$Word" "IF" "LPutOffParade$Word;") := (inT1 (i := 815) (by decide +kernel) rfl)
theorem wX3_59 : inT (.fieldLink RX3 59 "PutOffParade$Word" "GROW" "LPutOffParade$Word;") := (inT1 (i := 797) (by decide +kernel) rfl)
theorem wX3_62 : inT (.fieldLink RX3 62 "PutOffParade$Word" "SHAME" "LPutOffParade$Word;") := (inT1 (i := 803) (by decide +kernel) rfl)
theorem wX3_65 : inT (.fieldLink RX3 65 "PutOffParade$Word" "EASE" "LPutOffParade$Word;") := (inT1 (i := 805) (by decide +kernel) rfl)
theorem fX3_68_3 : LF RX3 68 3 4 ((RX3, TX3, 6), tyX3) := ⟨rfl, aok_3, by decide, RX3, inT0 (i := 286) (by decide +kernel), Or.inl rfl⟩
theorem gfX3_68_3 : LFi RX3 68 3 4 := ⟨_, fX3_68_3, rfl⟩
theorem pfX3_68_3 {nm : String} : LPi RX3 nm 68 3 4 := ⟨_, ⟨fX3_68_3, Or.inl rfl⟩, rfl⟩
theorem fX3_72_3 : LF RX3 72 3 5 ((RX3, TX3, 6), tyX3) := ⟨rfl, aok_3, by decide, RX3, inT0 (i := 287) (by decide +kernel), Or.inl rfl⟩
theorem gfX3_72_3 : LFi RX3 72 3 5 := ⟨_, fX3_72_3, rfl⟩
theorem pfX3_72_3 {nm : String} : LPi RX3 nm 72 3 5 := ⟨_, ⟨fX3_72_3, Or.inl rfl⟩, rfl⟩
theorem fX3_96_9 : LF RX3 96 9 9 ((RX9, TX9, 10), tyX9) := ⟨rfl, aok_9, by decide, RX9, inT0 (i := 84) (by decide +kernel), Or.inl rfl⟩
theorem gfX3_96_9 : LFr RX3 96 9 9 := ⟨_, fX3_96_9, rfl⟩
theorem wX3_99 : inT (.fieldLink RX3 99 "PutOffParade$Word" "AND" "LPutOffParade$Word;") := (inT1 (i := 875) (by decide +kernel) rfl)
theorem wX3_102 : inT (.fieldLink RX3 102 "PutOffParade$Word" "OR" "LPutOffParade$Word;") := (inT1 (i := 877) (by decide +kernel) rfl)
theorem wX3_105 : inT (.fieldLink RX3 105 "PutOffParade$Word" "NOT" "LPutOffParade$Word;") := (inT1 (i := 825) (by decide +kernel) rfl)
theorem wX3_123 : inT (.fieldLink RX3 123 "PutOffParade$Word" "READY" "LPutOffParade$Word;") := (inT1 (i := 841) (by decide +kernel) rfl)
theorem wX3_126 : inT (.fieldLink RX3 126 "PutOffParade$Word" "OLD" "LPutOffParade$Word;") := (inT1 (i := 847) (by decide +kernel) rfl)
theorem fX3_138_9 : LF RX3 138 9 6 ((RX9, TX9, 10), tyX9) := ⟨rfl, aok_9, by decide, RX9, inT0 (i := 77) (by decide +kernel), Or.inl rfl⟩
theorem gfX3_138_9 : LFi RX3 138 9 6 := ⟨_, fX3_138_9, rfl⟩
theorem fX3_141_9 : LF RX3 141 9 8 ((RX9, TX9, 10), tyX9) := ⟨rfl, aok_9, by decide, RX9, inT0 (i := 82) (by decide +kernel), Or.inl rfl⟩
theorem gfX3_141_9 : LFi RX3 141 9 8 := ⟨_, fX3_141_9, rfl⟩
theorem wX3_144 : inT (.fieldLink RX3 144 "PutOffParade$Word" "part" "I") := (inT1 (i := 2213) (by decide +kernel) rfl)
theorem fX4_9_5 : LF RX4 9 5 8 ((RX5, TX5, 18), tyX5) := ⟨rfl, aok_5, by decide, RX5, inT0 (i := 162) (by decide +kernel), Or.inl rfl⟩
theorem gfX4_9_5 : LFr RX4 9 5 8 := ⟨_, fX4_9_5, rfl⟩
theorem fX4_23_5 : LF RX4 23 5 3 ((RX5, TX5, 18), tyX5) := ⟨rfl, aok_5, by decide, RX5, inT0 (i := 143) (by decide +kernel), Or.inl rfl⟩
theorem gfX4_23_5 : LFi RX4 23 5 3 := ⟨_, fX4_23_5, rfl⟩
theorem fX4_54_5 : LF RX4 54 5 5 ((RX5, TX5, 18), tyX5) := ⟨rfl, aok_5, by decide, RX5, inT0 (i := 152) (by decide +kernel), Or.inl rfl⟩
theorem gfX4_54_5 : LFr RX4 54 5 5 := ⟨_, fX4_54_5, rfl⟩
theorem fX5_9_5 : LF RX5 9 5 1 ((RX5, TX5, 18), tyX5) := ⟨rfl, aok_5, by decide, RX5, inT0 (i := 134) (by decide +kernel), Or.inl rfl⟩
theorem gfX5_9_5 : LFr RX5 9 5 1 := ⟨_, fX5_9_5, rfl⟩
theorem pfX5_9_5 : LPr RX5 "<init>" 9 5 1 := ⟨_, ⟨fX5_9_5, Or.inr ⟨rfl, rfl, rfl⟩⟩, rfl⟩
theorem fX5_15_5 : LF RX5 15 5 2 ((RX5, TX5, 18), tyX5) := ⟨rfl, aok_5, by decide, RX5, inT0 (i := 137) (by decide +kernel), Or.inl rfl⟩
theorem gfX5_15_5 : LFr RX5 15 5 2 := ⟨_, fX5_15_5, rfl⟩
theorem pfX5_15_5 : LPr RX5 "<init>" 15 5 2 := ⟨_, ⟨fX5_15_5, Or.inr ⟨rfl, rfl, rfl⟩⟩, rfl⟩
theorem fX5_18_5 : LF RX5 18 5 4 ((RX5, TX5, 18), tyX5) := ⟨rfl, aok_5, by decide, RX5, inT0 (i := 146) (by decide +kernel), Or.inl rfl⟩
theorem gfX5_18_5 : LFr RX5 18 5 4 := ⟨_, fX5_18_5, rfl⟩
theorem pfX5_18_5 : LPr RX5 "<init>" 18 5 4 := ⟨_, ⟨fX5_18_5, Or.inr ⟨rfl, rfl, rfl⟩⟩, rfl⟩
theorem fX5_21_5 : LF RX5 21 5 5 ((RX5, TX5, 18), tyX5) := ⟨rfl, aok_5, by decide, RX5, inT0 (i := 150) (by decide +kernel), Or.inl rfl⟩
theorem gfX5_21_5 : LFr RX5 21 5 5 := ⟨_, fX5_21_5, rfl⟩
theorem pfX5_21_5 : LPr RX5 "<init>" 21 5 5 := ⟨_, ⟨fX5_21_5, Or.inr ⟨rfl, rfl, rfl⟩⟩, rfl⟩
theorem fX5_24_5 : LF RX5 24 5 6 ((RX5, TX5, 18), tyX5) := ⟨rfl, aok_5, by decide, RX5, inT0 (i := 155) (by decide +kernel), Or.inl rfl⟩
theorem gfX5_24_5 : LFr RX5 24 5 6 := ⟨_, fX5_24_5, rfl⟩
theorem pfX5_24_5 : LPr RX5 "<init>" 24 5 6 := ⟨_, ⟨fX5_24_5, Or.inr ⟨rfl, rfl, rfl⟩⟩, rfl⟩
theorem fX5_27_5 : LF RX5 27 5 7 ((RX5, TX5, 18), tyX5) := ⟨rfl, aok_5, by decide, RX5, inT0 (i := 158) (by decide +kernel), Or.inl rfl⟩
theorem gfX5_27_5 : LFr RX5 27 5 7 := ⟨_, fX5_27_5, rfl⟩
theorem pfX5_27_5 : LPr RX5 "<init>" 27 5 7 := ⟨_, ⟨fX5_27_5, Or.inr ⟨rfl, rfl, rfl⟩⟩, rfl⟩
theorem fX5_30_5 : LF RX5 30 5 8 ((RX5, TX5, 18), tyX5) := ⟨rfl, aok_5, by decide, RX5, inT0 (i := 161) (by decide +kernel), Or.inl rfl⟩
theorem gfX5_30_5 : LFr RX5 30 5 8 := ⟨_, fX5_30_5, rfl⟩
theorem pfX5_30_5 : LPr RX5 "<init>" 30 5 8 := ⟨_, ⟨fX5_30_5, Or.inr ⟨rfl, rfl, rfl⟩⟩, rfl⟩
theorem fX5_33_5 : LF RX5 33 5 9 ((RX5, TX5, 18), tyX5) := ⟨rfl, aok_5, by decide, RX5, inT0 (i := 165) (by decide +kernel), Or.inl rfl⟩
theorem gfX5_33_5 : LFr RX5 33 5 9 := ⟨_, fX5_33_5, rfl⟩
theorem pfX5_33_5 : LPr RX5 "<init>" 33 5 9 := ⟨_, ⟨fX5_33_5, Or.inr ⟨rfl, rfl, rfl⟩⟩, rfl⟩
theorem fX5_36_5 : LF RX5 36 5 10 ((RX5, TX5, 18), tyX5) := ⟨rfl, aok_5, by decide, RX5, inT0 (i := 168) (by decide +kernel), Or.inl rfl⟩
theorem gfX5_36_5 : LFi RX5 36 5 10 := ⟨_, fX5_36_5, rfl⟩
theorem pfX5_36_5 {nm : String} : LPi RX5 nm 36 5 10 := ⟨_, ⟨fX5_36_5, Or.inl rfl⟩, rfl⟩
theorem fX5_40_5 : LF RX5 40 5 13 ((RX5, TX5, 18), tyX5) := ⟨rfl, aok_5, by decide, RX5, inT0 (i := 178) (by decide +kernel), Or.inl rfl⟩
theorem gfX5_40_5 : LFi RX5 40 5 13 := ⟨_, fX5_40_5, rfl⟩
theorem pfX5_40_5 {nm : String} : LPi RX5 nm 40 5 13 := ⟨_, ⟨fX5_40_5, Or.inl rfl⟩, rfl⟩
theorem fX5_43_5 : LF RX5 43 5 14 ((RX5, TX5, 18), tyX5) := ⟨rfl, aok_5, by decide, RX5, inT0 (i := 181) (by decide +kernel), Or.inl rfl⟩
theorem gfX5_43_5 : LFi RX5 43 5 14 := ⟨_, fX5_43_5, rfl⟩
theorem pfX5_43_5 {nm : String} : LPi RX5 nm 43 5 14 := ⟨_, ⟨fX5_43_5, Or.inl rfl⟩, rfl⟩
theorem fX5_46_5 : LF RX5 46 5 15 ((RX5, TX5, 18), tyX5) := ⟨rfl, aok_5, by decide, RX5, inT0 (i := 184) (by decide +kernel), Or.inl rfl⟩
theorem gfX5_46_5 : LFi RX5 46 5 15 := ⟨_, fX5_46_5, rfl⟩
theorem pfX5_46_5 {nm : String} : LPi RX5 nm 46 5 15 := ⟨_, ⟨fX5_46_5, Or.inl rfl⟩, rfl⟩
theorem fX5_52_5 : LF RX5 52 5 17 ((RX5, TX5, 18), tyX5) := ⟨rfl, aok_5, by decide, RX5, inT0 (i := 188) (by decide +kernel), Or.inl rfl⟩
theorem gfX5_52_5 : LFr RX5 52 5 17 := ⟨_, fX5_52_5, rfl⟩
theorem pfX5_52_5 : LPr RX5 "<init>" 52 5 17 := ⟨_, ⟨fX5_52_5, Or.inr ⟨rfl, rfl, rfl⟩⟩, rfl⟩
theorem fX5_56_5 : LF RX5 56 5 0 ((RX5, TX5, 18), tyX5) := ⟨rfl, aok_5, by decide, RX5, inT0 (i := 131) (by decide +kernel), Or.inl rfl⟩
theorem gfX5_56_5 : LFi RX5 56 5 0 := ⟨_, fX5_56_5, rfl⟩
theorem pfX5_56_5 {nm : String} : LPi RX5 nm 56 5 0 := ⟨_, ⟨fX5_56_5, Or.inl rfl⟩, rfl⟩
theorem fX5_63_5 : LF RX5 63 5 3 ((RX5, TX5, 18), tyX5) := ⟨rfl, aok_5, by decide, RX5, inT0 (i := 141) (by decide +kernel), Or.inl rfl⟩
theorem gfX5_63_5 : LFi RX5 63 5 3 := ⟨_, fX5_63_5, rfl⟩
theorem pfX5_63_5 {nm : String} : LPi RX5 nm 63 5 3 := ⟨_, ⟨fX5_63_5, Or.inl rfl⟩, rfl⟩
theorem fX5_66_5 : LF RX5 66 5 11 ((RX5, TX5, 18), tyX5) := ⟨rfl, aok_5, by decide, RX5, inT0 (i := 172) (by decide +kernel), Or.inl rfl⟩
theorem gfX5_66_5 : LFi RX5 66 5 11 := ⟨_, fX5_66_5, rfl⟩
theorem pfX5_66_5 {nm : String} : LPi RX5 nm 66 5 11 := ⟨_, ⟨fX5_66_5, Or.inl rfl⟩, rfl⟩
theorem fX5_69_5 : LF RX5 69 5 12 ((RX5, TX5, 18), tyX5) := ⟨rfl, aok_5, by decide, RX5, inT0 (i := 175) (by decide +kernel), Or.inl rfl⟩
theorem gfX5_69_5 : LFi RX5 69 5 12 := ⟨_, fX5_69_5, rfl⟩
theorem pfX5_69_5 {nm : String} : LPi RX5 nm 69 5 12 := ⟨_, ⟨fX5_69_5, Or.inl rfl⟩, rfl⟩
theorem fX5_72_5 : LF RX5 72 5 16 ((RX5, TX5, 18), tyX5) := ⟨rfl, aok_5, by decide, RX5, inT0 (i := 186) (by decide +kernel), Or.inl rfl⟩
theorem gfX5_72_5 : LFi RX5 72 5 16 := ⟨_, fX5_72_5, rfl⟩
theorem pfX5_72_5 {nm : String} : LPi RX5 nm 72 5 16 := ⟨_, ⟨fX5_72_5, Or.inl rfl⟩, rfl⟩
theorem fX6_16_6 : LF RX6 16 6 2 ((RX6, TX6, 3), tyX6) := ⟨rfl, aok_6, by decide, RX6, inT0 (i := 227) (by decide +kernel), Or.inl rfl⟩
theorem gfX6_16_6 : LFr RX6 16 6 2 := ⟨_, fX6_16_6, rfl⟩
theorem pfX6_16_6 : LPr RX6 "<init>" 16 6 2 := ⟨_, ⟨fX6_16_6, Or.inr ⟨rfl, rfl, rfl⟩⟩, rfl⟩
theorem fX6_20_6 : LF RX6 20 6 0 ((RX6, TX6, 3), tyX6) := ⟨rfl, aok_6, by decide, RX6, inT0 (i := 230) (by decide +kernel), Or.inr (inT0 (i := 231) (by decide +kernel))⟩
theorem gfX6_20_6 : LFr RX6 20 6 0 := ⟨_, fX6_20_6, rfl⟩
theorem fX6_24_9 : LF RX6 24 9 9 ((RX9, TX9, 10), tyX9) := ⟨rfl, aok_9, by decide, RX9, inT0 (i := 83) (by decide +kernel), Or.inl rfl⟩
theorem gfX6_24_9 : LFr RX6 24 9 9 := ⟨_, fX6_24_9, rfl⟩
theorem wX6_30 : inT (.fieldLink RX6 30 "PutOffParade$Word" "PERSON" "LPutOffParade$Word;") := (inT1 (i := 886) (by decide +kernel) rfl)
theorem fX6_35_5 : LF RX6 35 5 0 ((RX5, TX5, 18), tyX5) := ⟨rfl, aok_5, by decide, RX5, inT0 (i := 132) (by decide +kernel), Or.inl rfl⟩
theorem gfX6_35_5 : LFi RX6 35 5 0 := ⟨_, fX6_35_5, rfl⟩
theorem wX6_43 : inT (.fieldLink RX6 43 "PutOffParade$Word" "DUTY" "LPutOffParade$Word;") := (inT1 (i := 907) (by decide +kernel) rfl)
theorem fX6_46_5 : LF RX6 46 5 3 ((RX5, TX5, 18), tyX5) := ⟨rfl, aok_5, by decide, RX5, inT0 (i := 142) (by decide +kernel), Or.inl rfl⟩
theorem gfX6_46_5 : LFi RX6 46 5 3 := ⟨_, fX6_46_5, rfl⟩
theorem wX6_52 : inT (.fieldLink RX6 52 "PutOffParade$Word" "FORGOTTEN" "LPutOffParade$Word;") := (inT1 (i := 927) (by decide +kernel) rfl)
theorem wX6_68 : inT (.fieldLink RX6 68 "PutOffParade$Word" "AT" "LPutOffParade$Word;") := (inT1 (i := 893) (by decide +kernel) rfl)
theorem wX6_75 : inT (.fieldLink RX6 75 "PutOffParade$Word" "FREE" "LPutOffParade$Word;") := (inT1 (i := 901) (by decide +kernel) rfl)
theorem wX6_82 : inT (.fieldLink RX6 82 "PutOffParade$Word" "OF" "LPutOffParade$Word;") := (inT1 (i := 913) (by decide +kernel) rfl)
theorem wX6_85 : inT (.fieldLink RX6 85 "PutOffParade$Word" "TAKES" "LPutOffParade$Word;") := (inT1 (i := 915) (by decide +kernel) rfl)
theorem wX6_88 : inT (.fieldLink RX6 88 "PutOffParade$Word" "AGE" "LPutOffParade$Word;") := (inT1 (i := 917) (by decide +kernel) rfl)
theorem wX6_91 : inT (.fieldLink RX6 91 "PutOffParade$Word" "TOOL" "LPutOffParade$Word;") := (inT1 (i := 919) (by decide +kernel) rfl)
theorem wX6_94 : inT (.fieldLink RX6 94 "PutOffParade$Word" "ON" "LPutOffParade$Word;") := (inT1 (i := 921) (by decide +kernel) rfl)
theorem fX6_101_9 : LF RX6 101 9 6 ((RX9, TX9, 10), tyX9) := ⟨rfl, aok_9, by decide, RX9, inT0 (i := 75) (by decide +kernel), Or.inl rfl⟩
theorem gfX6_101_9 : LFi RX6 101 9 6 := ⟨_, fX6_101_9, rfl⟩
theorem fX6_104_9 : LF RX6 104 9 8 ((RX9, TX9, 10), tyX9) := ⟨rfl, aok_9, by decide, RX9, inT0 (i := 80) (by decide +kernel), Or.inl rfl⟩
theorem gfX6_104_9 : LFi RX6 104 9 8 := ⟨_, fX6_104_9, rfl⟩
theorem fX6_111_5 : LF RX6 111 5 9 ((RX5, TX5, 18), tyX5) := ⟨rfl, aok_5, by decide, RX5, inT0 (i := 166) (by decide +kernel), Or.inl rfl⟩
theorem gfX6_111_5 : LFr RX6 111 5 9 := ⟨_, fX6_111_5, rfl⟩
theorem wX6_119 : inT (.fieldLink RX6 119 "PutOffParade$Word" "ILL" "LPutOffParade$Word;") := (inT1 (i := 939) (by decide +kernel) rfl)
theorem fX6_122_5 : LF RX6 122 5 12 ((RX5, TX5, 18), tyX5) := ⟨rfl, aok_5, by decide, RX5, inT0 (i := 176) (by decide +kernel), Or.inl rfl⟩
theorem gfX6_122_5 : LFi RX6 122 5 12 := ⟨_, fX6_122_5, rfl⟩
theorem pfX6_122_5 {nm : String} : LPi RX6 nm 122 5 12 := ⟨_, ⟨fX6_122_5, Or.inl rfl⟩, rfl⟩
theorem wX6_125 : inT (.fieldLink RX6 125 "PutOffParade$Word" "PACE" "LPutOffParade$Word;") := (inT1 (i := 941) (by decide +kernel) rfl)
theorem fX6_128_5 : LF RX6 128 5 13 ((RX5, TX5, 18), tyX5) := ⟨rfl, aok_5, by decide, RX5, inT0 (i := 179) (by decide +kernel), Or.inl rfl⟩
theorem gfX6_128_5 : LFi RX6 128 5 13 := ⟨_, fX6_128_5, rfl⟩
theorem pfX6_128_5 {nm : String} : LPi RX6 nm 128 5 13 := ⟨_, ⟨fX6_128_5, Or.inl rfl⟩, rfl⟩
theorem wX6_131 : inT (.fieldLink RX6 131 "PutOffParade$Word" "PRICE" "LPutOffParade$Word;") := (inT1 (i := 943) (by decide +kernel) rfl)
theorem fX6_134_5 : LF RX6 134 5 14 ((RX5, TX5, 18), tyX5) := ⟨rfl, aok_5, by decide, RX5, inT0 (i := 182) (by decide +kernel), Or.inl rfl⟩
theorem gfX6_134_5 : LFi RX6 134 5 14 := ⟨_, fX6_134_5, rfl⟩
theorem pfX6_134_5 {nm : String} : LPi RX6 nm 134 5 14 := ⟨_, ⟨fX6_134_5, Or.inl rfl⟩, rfl⟩
theorem wX6_137 : inT (.fieldLink RX6 137 "PutOffParade$Word" "DAY" "LPutOffParade$Word;") := (inT1 (i := 945) (by decide +kernel) rfl)
theorem fX6_140_5 : LF RX6 140 5 10 ((RX5, TX5, 18), tyX5) := ⟨rfl, aok_5, by decide, RX5, inT0 (i := 169) (by decide +kernel), Or.inl rfl⟩
theorem gfX6_140_5 : LFi RX6 140 5 10 := ⟨_, fX6_140_5, rfl⟩
theorem pfX6_140_5 {nm : String} : LPi RX6 nm 140 5 10 := ⟨_, ⟨fX6_140_5, Or.inl rfl⟩, rfl⟩
theorem wX6_143 : inT (.fieldLink RX6 143 "PutOffParade$Word" "MONTH" "LPutOffParade$Word;") := (inT1 (i := 947) (by decide +kernel) rfl)
theorem fX6_146_5 : LF RX6 146 5 11 ((RX5, TX5, 18), tyX5) := ⟨rfl, aok_5, by decide, RX5, inT0 (i := 173) (by decide +kernel), Or.inl rfl⟩
theorem gfX6_146_5 : LFi RX6 146 5 11 := ⟨_, fX6_146_5, rfl⟩
theorem pfX6_146_5 {nm : String} : LPi RX6 nm 146 5 11 := ⟨_, ⟨fX6_146_5, Or.inl rfl⟩, rfl⟩
theorem fX7_9_7 : LF RX7 9 7 0 ((RX7, TX7, 2), tyX7) := ⟨rfl, aok_7, by decide, RX7, inT0 (i := 44) (by decide +kernel), Or.inl rfl⟩
theorem gfX7_9_7 : LFr RX7 9 7 0 := ⟨_, fX7_9_7, rfl⟩
theorem pfX7_9_7 : LPr RX7 "<init>" 9 7 0 := ⟨_, ⟨fX7_9_7, Or.inr ⟨rfl, rfl, rfl⟩⟩, rfl⟩
theorem fX7_15_7 : LF RX7 15 7 1 ((RX7, TX7, 2), tyX7) := ⟨rfl, aok_7, by decide, RX7, inT0 (i := 46) (by decide +kernel), Or.inl rfl⟩
theorem gfX7_15_7 : LFi RX7 15 7 1 := ⟨_, fX7_15_7, rfl⟩
theorem pfX7_15_7 {nm : String} : LPi RX7 nm 15 7 1 := ⟨_, ⟨fX7_15_7, Or.inl rfl⟩, rfl⟩
theorem fX8_12_3 : LF RX8 12 3 0 ((RX3, TX3, 6), tyX3) := ⟨rfl, aok_3, by decide, RX8, inT0 (i := 229) (by decide +kernel), Or.inl rfl⟩
theorem gfX8_12_3 : LFr RX8 12 3 0 := ⟨_, fX8_12_3, rfl⟩
theorem pfX8_12_3 : LPr RX8 "<init>" 12 3 0 := ⟨_, ⟨fX8_12_3, Or.inr ⟨rfl, rfl, rfl⟩⟩, rfl⟩
theorem fX8_12_6 : LF RX8 12 6 0 ((RX6, TX6, 3), tyX6) := ⟨rfl, aok_6, by decide, RX8, inT0 (i := 229) (by decide +kernel), Or.inl rfl⟩
theorem gfX8_12_6 : LFr RX8 12 6 0 := ⟨_, fX8_12_6, rfl⟩
theorem pfX8_12_6 : LPr RX8 "<init>" 12 6 0 := ⟨_, ⟨fX8_12_6, Or.inr ⟨rfl, rfl, rfl⟩⟩, rfl⟩
theorem fX8_18_3 : LF RX8 18 3 1 ((RX3, TX3, 6), tyX3) := ⟨rfl, aok_3, by decide, RX8, inT0 (i := 234) (by decide +kernel), Or.inl rfl⟩
theorem gfX8_18_3 : LFi RX8 18 3 1 := ⟨_, fX8_18_3, rfl⟩
theorem pfX8_18_3 : LPi RX8 "<init>" 18 3 1 := ⟨_, ⟨fX8_18_3, Or.inr ⟨rfl, rfl, rfl⟩⟩, rfl⟩
theorem fX8_18_6 : LF RX8 18 6 1 ((RX6, TX6, 3), tyX6) := ⟨rfl, aok_6, by decide, RX8, inT0 (i := 234) (by decide +kernel), Or.inl rfl⟩
theorem gfX8_18_6 : LFi RX8 18 6 1 := ⟨_, fX8_18_6, rfl⟩
theorem pfX8_18_6 : LPi RX8 "<init>" 18 6 1 := ⟨_, ⟨fX8_18_6, Or.inr ⟨rfl, rfl, rfl⟩⟩, rfl⟩
theorem fX8_33_9 : LF RX8 33 9 7 ((RX9, TX9, 10), tyX9) := ⟨rfl, aok_9, by decide, RX9, inT0 (i := 78) (by decide +kernel), Or.inl rfl⟩
theorem gfX8_33_9 : LFi RX8 33 9 7 := ⟨_, fX8_33_9, rfl⟩
theorem fX9_9_9 : LF RX9 9 9 0 ((RX9, TX9, 10), tyX9) := ⟨rfl, aok_9, by decide, RX9, inT0 (i := 69) (by decide +kernel), Or.inl rfl⟩
theorem gfX9_9_9 : LFr RX9 9 9 0 := ⟨_, fX9_9_9, rfl⟩
theorem pfX9_9_9 : LPr RX9 "<init>" 9 9 0 := ⟨_, ⟨fX9_9_9, Or.inr ⟨rfl, rfl, rfl⟩⟩, rfl⟩
theorem fX9_15_9 : LF RX9 15 9 1 ((RX9, TX9, 10), tyX9) := ⟨rfl, aok_9, by decide, RX9, inT0 (i := 70) (by decide +kernel), Or.inl rfl⟩
theorem gfX9_15_9 : LFr RX9 15 9 1 := ⟨_, fX9_15_9, rfl⟩
theorem pfX9_15_9 : LPr RX9 "<init>" 15 9 1 := ⟨_, ⟨fX9_15_9, Or.inr ⟨rfl, rfl, rfl⟩⟩, rfl⟩
theorem fX9_18_9 : LF RX9 18 9 2 ((RX9, TX9, 10), tyX9) := ⟨rfl, aok_9, by decide, RX9, inT0 (i := 71) (by decide +kernel), Or.inl rfl⟩
theorem gfX9_18_9 : LFr RX9 18 9 2 := ⟨_, fX9_18_9, rfl⟩
theorem pfX9_18_9 : LPr RX9 "<init>" 18 9 2 := ⟨_, ⟨fX9_18_9, Or.inr ⟨rfl, rfl, rfl⟩⟩, rfl⟩
theorem fX9_21_9 : LF RX9 21 9 3 ((RX9, TX9, 10), tyX9) := ⟨rfl, aok_9, by decide, RX9, inT0 (i := 72) (by decide +kernel), Or.inl rfl⟩
theorem gfX9_21_9 : LFr RX9 21 9 3 := ⟨_, fX9_21_9, rfl⟩
theorem pfX9_21_9 : LPr RX9 "<init>" 21 9 3 := ⟨_, ⟨fX9_21_9, Or.inr ⟨rfl, rfl, rfl⟩⟩, rfl⟩
theorem fX9_24_9 : LF RX9 24 9 4 ((RX9, TX9, 10), tyX9) := ⟨rfl, aok_9, by decide, RX9, inT0 (i := 73) (by decide +kernel), Or.inl rfl⟩
theorem gfX9_24_9 : LFi RX9 24 9 4 := ⟨_, fX9_24_9, rfl⟩
theorem pfX9_24_9 {nm : String} : LPi RX9 nm 24 9 4 := ⟨_, ⟨fX9_24_9, Or.inl rfl⟩, rfl⟩
theorem fX9_28_7 : LF RX9 28 7 1 ((RX7, TX7, 2), tyX7) := ⟨rfl, aok_7, by decide, RX7, inT0 (i := 47) (by decide +kernel), Or.inl rfl⟩
theorem gfX9_28_7 : LFi RX9 28 7 1 := ⟨_, fX9_28_7, rfl⟩
theorem fX9_52_9 : LF RX9 52 9 5 ((RX9, TX9, 10), tyX9) := ⟨rfl, aok_9, by decide, RX9, inT0 (i := 74) (by decide +kernel), Or.inl rfl⟩
theorem gfX9_52_9 : LFi RX9 52 9 5 := ⟨_, fX9_52_9, rfl⟩
theorem pfX9_52_9 {nm : String} : LPi RX9 nm 52 9 5 := ⟨_, ⟨fX9_52_9, Or.inl rfl⟩, rfl⟩
theorem wX9_68 : inT (.fieldLink RX9 68 "PutOffParade$Tokens" "WORDS" "[LPutOffParade$Word;") := (inT1 (i := 720) (by decide +kernel) rfl)
theorem wX9_72 : inT (.fieldLink RX9 72 "PutOffParade$Word" "text" "Ljava/lang/String;") := (inT1 (i := 2210) (by decide +kernel) rfl)
theorem fX9_97_9 : LF RX9 97 9 6 ((RX9, TX9, 10), tyX9) := ⟨rfl, aok_9, by decide, RX9, inT0 (i := 76) (by decide +kernel), Or.inl rfl⟩
theorem gfX9_97_9 : LFi RX9 97 9 6 := ⟨_, fX9_97_9, rfl⟩
theorem pfX9_97_9 {nm : String} : LPi RX9 nm 97 9 6 := ⟨_, ⟨fX9_97_9, Or.inl rfl⟩, rfl⟩
theorem fX9_100_9 : LF RX9 100 9 7 ((RX9, TX9, 10), tyX9) := ⟨rfl, aok_9, by decide, RX9, inT0 (i := 79) (by decide +kernel), Or.inl rfl⟩
theorem pfX9_100_9 {nm : String} : LPi RX9 nm 100 9 7 := ⟨_, ⟨fX9_100_9, Or.inl rfl⟩, rfl⟩
theorem fX9_103_9 : LF RX9 103 9 8 ((RX9, TX9, 10), tyX9) := ⟨rfl, aok_9, by decide, RX9, inT0 (i := 81) (by decide +kernel), Or.inl rfl⟩
theorem gfX9_103_9 : LFi RX9 103 9 8 := ⟨_, fX9_103_9, rfl⟩
theorem pfX9_103_9 {nm : String} : LPi RX9 nm 103 9 8 := ⟨_, ⟨fX9_103_9, Or.inl rfl⟩, rfl⟩
theorem fX9_106_9 : LF RX9 106 9 9 ((RX9, TX9, 10), tyX9) := ⟨rfl, aok_9, by decide, RX9, inT0 (i := 85) (by decide +kernel), Or.inl rfl⟩
theorem gfX9_106_9 : LFr RX9 106 9 9 := ⟨_, fX9_106_9, rfl⟩
theorem pfX9_106_9 {nm : String} : LPr RX9 nm 106 9 9 := ⟨_, ⟨fX9_106_9, Or.inl rfl⟩, rfl⟩
theorem fX12_3_12 : LF RX12 3 12 0 ((RX12, TX12, 20), tyX12) := ⟨rfl, aok_12, by decide, RX12, inT0 (i := 1475) (by decide +kernel), Or.inl rfl⟩
theorem gfX12_3_12 : LFi RX12 3 12 0 := ⟨_, fX12_3_12, rfl⟩
theorem pfX12_3_12 {nm : String} : LPi RX12 nm 3 12 0 := ⟨_, ⟨fX12_3_12, Or.inl rfl⟩, rfl⟩
theorem fX12_13_12 : LF RX12 13 12 1 ((RX12, TX12, 20), tyX12) := ⟨rfl, aok_12, by decide, RX12, inT0 (i := 1476) (by decide +kernel), Or.inl rfl⟩
theorem gfX12_13_12 : LFr RX12 13 12 1 := ⟨_, fX12_13_12, rfl⟩
theorem pfX12_13_12 : LPr RX12 "<init>" 13 12 1 := ⟨_, ⟨fX12_13_12, Or.inr ⟨rfl, rfl, rfl⟩⟩, rfl⟩
theorem fX12_17_12 : LF RX12 17 12 2 ((RX12, TX12, 20), tyX12) := ⟨rfl, aok_12, by decide, RX12, inT0 (i := 1477) (by decide +kernel), Or.inl rfl⟩
theorem gfX12_17_12 : LFr RX12 17 12 2 := ⟨_, fX12_17_12, rfl⟩
theorem pfX12_17_12 : LPr RX12 "<init>" 17 12 2 := ⟨_, ⟨fX12_17_12, Or.inr ⟨rfl, rfl, rfl⟩⟩, rfl⟩
theorem fX12_20_12 : LF RX12 20 12 3 ((RX12, TX12, 20), tyX12) := ⟨rfl, aok_12, by decide, RX12, inT0 (i := 1478) (by decide +kernel), Or.inl rfl⟩
theorem gfX12_20_12 : LFr RX12 20 12 3 := ⟨_, fX12_20_12, rfl⟩
theorem pfX12_20_12 : LPr RX12 "<init>" 20 12 3 := ⟨_, ⟨fX12_20_12, Or.inr ⟨rfl, rfl, rfl⟩⟩, rfl⟩
theorem fX12_23_12 : LF RX12 23 12 4 ((RX12, TX12, 20), tyX12) := ⟨rfl, aok_12, by decide, RX12, inT0 (i := 1479) (by decide +kernel), Or.inl rfl⟩
theorem gfX12_23_12 : LFr RX12 23 12 4 := ⟨_, fX12_23_12, rfl⟩
theorem pfX12_23_12 : LPr RX12 "<init>" 23 12 4 := ⟨_, ⟨fX12_23_12, Or.inr ⟨rfl, rfl, rfl⟩⟩, rfl⟩
theorem fX12_26_12 : LF RX12 26 12 5 ((RX12, TX12, 20), tyX12) := ⟨rfl, aok_12, by decide, RX12, inT0 (i := 1480) (by decide +kernel), Or.inl rfl⟩
theorem gfX12_26_12 : LFr RX12 26 12 5 := ⟨_, fX12_26_12, rfl⟩
theorem pfX12_26_12 : LPr RX12 "<init>" 26 12 5 := ⟨_, ⟨fX12_26_12, Or.inr ⟨rfl, rfl, rfl⟩⟩, rfl⟩
theorem fX12_29_12 : LF RX12 29 12 8 ((RX12, TX12, 20), tyX12) := ⟨rfl, aok_12, by decide, RX12, inT0 (i := 1483) (by decide +kernel), Or.inl rfl⟩
theorem gfX12_29_12 : LFr RX12 29 12 8 := ⟨_, fX12_29_12, rfl⟩
theorem pfX12_29_12 : LPr RX12 "<init>" 29 12 8 := ⟨_, ⟨fX12_29_12, Or.inr ⟨rfl, rfl, rfl⟩⟩, rfl⟩
theorem fX12_33_12 : LF RX12 33 12 14 ((RX12, TX12, 20), tyX12) := ⟨rfl, aok_12, by decide, RX12, inT0 (i := 1489) (by decide +kernel), Or.inl rfl⟩
theorem gfX12_33_12 : LFi RX12 33 12 14 := ⟨_, fX12_33_12, rfl⟩
theorem pfX12_33_12 {nm : String} : LPi RX12 nm 33 12 14 := ⟨_, ⟨fX12_33_12, Or.inl rfl⟩, rfl⟩
theorem fX12_36_12 : LF RX12 36 12 15 ((RX12, TX12, 20), tyX12) := ⟨rfl, aok_12, by decide, RX12, inT0 (i := 1490) (by decide +kernel), Or.inl rfl⟩
theorem gfX12_36_12 : LFr RX12 36 12 15 := ⟨_, fX12_36_12, rfl⟩
theorem pfX12_36_12 : LPr RX12 "<init>" 36 12 15 := ⟨_, ⟨fX12_36_12, Or.inr ⟨rfl, rfl, rfl⟩⟩, rfl⟩
theorem fX12_39_12 : LF RX12 39 12 17 ((RX12, TX12, 20), tyX12) := ⟨rfl, aok_12, by decide, RX12, inT0 (i := 1492) (by decide +kernel), Or.inl rfl⟩
theorem gfX12_39_12 : LFr RX12 39 12 17 := ⟨_, fX12_39_12, rfl⟩
theorem pfX12_39_12 : LPr RX12 "<init>" 39 12 17 := ⟨_, ⟨fX12_39_12, Or.inr ⟨rfl, rfl, rfl⟩⟩, rfl⟩
theorem fX12_42_12 : LF RX12 42 12 18 ((RX12, TX12, 20), tyX12) := ⟨rfl, aok_12, by decide, RX12, inT0 (i := 1493) (by decide +kernel), Or.inl rfl⟩
theorem gfX12_42_12 : LFr RX12 42 12 18 := ⟨_, fX12_42_12, rfl⟩
theorem pfX12_42_12 : LPr RX12 "<init>" 42 12 18 := ⟨_, ⟨fX12_42_12, Or.inr ⟨rfl, rfl, rfl⟩⟩, rfl⟩
theorem fX12_45_12 : LF RX12 45 12 19 ((RX12, TX12, 20), tyX12) := ⟨rfl, aok_12, by decide, RX12, inT0 (i := 1494) (by decide +kernel), Or.inl rfl⟩
theorem gfX12_45_12 : LFr RX12 45 12 19 := ⟨_, fX12_45_12, rfl⟩
theorem pfX12_45_12 : LPr RX12 "<init>" 45 12 19 := ⟨_, ⟨fX12_45_12, Or.inr ⟨rfl, rfl, rfl⟩⟩, rfl⟩
theorem fX12_49_12 : LF RX12 49 12 6 ((RX12, TX12, 20), tyX12) := ⟨rfl, aok_12, by decide, RX12, inT0 (i := 1481) (by decide +kernel), Or.inl rfl⟩
theorem gfX12_49_12 : LFi RX12 49 12 6 := ⟨_, fX12_49_12, rfl⟩
theorem pfX12_49_12 {nm : String} : LPz RX12 nm 49 12 6 := ⟨_, ⟨fX12_49_12, Or.inl rfl⟩, rfl⟩
theorem fX12_53_12 : LF RX12 53 12 7 ((RX12, TX12, 20), tyX12) := ⟨rfl, aok_12, by decide, RX12, inT0 (i := 1482) (by decide +kernel), Or.inl rfl⟩
theorem gfX12_53_12 : LFi RX12 53 12 7 := ⟨_, fX12_53_12, rfl⟩
theorem pfX12_53_12 {nm : String} : LPi RX12 nm 53 12 7 := ⟨_, ⟨fX12_53_12, Or.inl rfl⟩, rfl⟩
theorem fX12_78_12 : LF RX12 78 12 9 ((RX12, TX12, 20), tyX12) := ⟨rfl, aok_12, by decide, RX12, inT0 (i := 1484) (by decide +kernel), Or.inl rfl⟩
theorem gfX12_78_12 : LFi RX12 78 12 9 := ⟨_, fX12_78_12, rfl⟩
theorem pfX12_78_12 {nm : String} : LPi RX12 nm 78 12 9 := ⟨_, ⟨fX12_78_12, Or.inl rfl⟩, rfl⟩
theorem fX12_81_12 : LF RX12 81 12 10 ((RX12, TX12, 20), tyX12) := ⟨rfl, aok_12, by decide, RX12, inT0 (i := 1485) (by decide +kernel), Or.inl rfl⟩
theorem gfX12_81_12 : LFi RX12 81 12 10 := ⟨_, fX12_81_12, rfl⟩
theorem pfX12_81_12 {nm : String} : LPi RX12 nm 81 12 10 := ⟨_, ⟨fX12_81_12, Or.inl rfl⟩, rfl⟩
theorem fX12_84_12 : LF RX12 84 12 11 ((RX12, TX12, 20), tyX12) := ⟨rfl, aok_12, by decide, RX12, inT0 (i := 1486) (by decide +kernel), Or.inl rfl⟩
theorem gfX12_84_12 : LFi RX12 84 12 11 := ⟨_, fX12_84_12, rfl⟩
theorem pfX12_84_12 {nm : String} : LPi RX12 nm 84 12 11 := ⟨_, ⟨fX12_84_12, Or.inl rfl⟩, rfl⟩
theorem fX12_91_12 : LF RX12 91 12 12 ((RX12, TX12, 20), tyX12) := ⟨rfl, aok_12, by decide, RX12, inT0 (i := 1487) (by decide +kernel), Or.inl rfl⟩
theorem gfX12_91_12 : LFi RX12 91 12 12 := ⟨_, fX12_91_12, rfl⟩
theorem pfX12_91_12 {nm : String} : LPi RX12 nm 91 12 12 := ⟨_, ⟨fX12_91_12, Or.inl rfl⟩, rfl⟩
theorem fX12_168_12 : LF RX12 168 12 16 ((RX12, TX12, 20), tyX12) := ⟨rfl, aok_12, by decide, RX12, inT0 (i := 1491) (by decide +kernel), Or.inl rfl⟩
theorem gfX12_168_12 : LFi RX12 168 12 16 := ⟨_, fX12_168_12, rfl⟩
theorem pfX12_168_12 {nm : String} : LPi RX12 nm 168 12 16 := ⟨_, ⟨fX12_168_12, Or.inl rfl⟩, rfl⟩
theorem fX12_194_12 : LF RX12 194 12 13 ((RX12, TX12, 20), tyX12) := ⟨rfl, aok_12, by decide, RX12, inT0 (i := 1488) (by decide +kernel), Or.inl rfl⟩
theorem gfX12_194_12 : LFi RX12 194 12 13 := ⟨_, fX12_194_12, rfl⟩
theorem pfX12_194_12 {nm : String} : LPi RX12 nm 194 12 13 := ⟨_, ⟨fX12_194_12, Or.inl rfl⟩, rfl⟩
theorem wJ0_9 : inT (.fieldLink RJ0 9 "java/lang/String" "value" "[B") := (inT1 (i := 2211) (by decide +kernel) rfl)
theorem wJ0_15 : inT (.fieldLink RJ0 15 "java/lang/String" "coder" "B") := (inT1 (i := 2212) (by decide +kernel) rfl)
theorem wJ0_38 : inT (.fieldLink RJ0 38 "java/lang/String" "COMPACT_STRINGS" "Z") := (inT1 (i := 734) (by decide +kernel) rfl)
theorem wJ0_1053 : inT (.fieldLink RJ0 1053 "jdk/internal/util/Preconditions" "SIOOBE_FORMATTER" "Ljava/util/function/BiFunction;") := (inT1 (i := 750) (by decide +kernel) rfl)
theorem wJ2_44 : inT (.fieldLink RJ2 44 "java/lang/StringUTF16" "$assertionsDisabled" "Z") := (inT1 (i := 768) (by decide +kernel) rfl)
theorem wJ2_59 : inT (.fieldLink RJ2 59 "java/lang/StringUTF16" "HI_BYTE_SHIFT" "I") := (inT1 (i := 770) (by decide +kernel) rfl)
theorem wJ2_63 : inT (.fieldLink RJ2 63 "java/lang/StringUTF16" "LO_BYTE_SHIFT" "I") := (inT1 (i := 772) (by decide +kernel) rfl)
end
