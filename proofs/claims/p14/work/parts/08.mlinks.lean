/-! ===== the methods as their callers know them, and the calls' links, printed by program ===== -/
theorem nh_0 : ("PutOffParade$Choosing" : String) ≠ "java/lang/invoke/MethodHandle" ∧ ("PutOffParade$Choosing" : String) ≠ "java/lang/invoke/VarHandle" := ⟨by decide +kernel, by decide +kernel⟩
theorem nh_1 : ("PutOffParade$Floats" : String) ≠ "java/lang/invoke/MethodHandle" ∧ ("PutOffParade$Floats" : String) ≠ "java/lang/invoke/VarHandle" := ⟨by decide +kernel, by decide +kernel⟩
theorem nh_2 : ("PutOffParade$Law" : String) ≠ "java/lang/invoke/MethodHandle" ∧ ("PutOffParade$Law" : String) ≠ "java/lang/invoke/VarHandle" := ⟨by decide +kernel, by decide +kernel⟩
theorem nh_3 : ("PutOffParade$LawReader" : String) ≠ "java/lang/invoke/MethodHandle" ∧ ("PutOffParade$LawReader" : String) ≠ "java/lang/invoke/VarHandle" := ⟨by decide +kernel, by decide +kernel⟩
theorem nh_4 : ("PutOffParade$Leaning" : String) ≠ "java/lang/invoke/MethodHandle" ∧ ("PutOffParade$Leaning" : String) ≠ "java/lang/invoke/VarHandle" := ⟨by decide +kernel, by decide +kernel⟩
theorem nh_5 : ("PutOffParade$Street" : String) ≠ "java/lang/invoke/MethodHandle" ∧ ("PutOffParade$Street" : String) ≠ "java/lang/invoke/VarHandle" := ⟨by decide +kernel, by decide +kernel⟩
theorem nh_6 : ("PutOffParade$StreetReader" : String) ≠ "java/lang/invoke/MethodHandle" ∧ ("PutOffParade$StreetReader" : String) ≠ "java/lang/invoke/VarHandle" := ⟨by decide +kernel, by decide +kernel⟩
theorem nh_7 : ("PutOffParade$Tape" : String) ≠ "java/lang/invoke/MethodHandle" ∧ ("PutOffParade$Tape" : String) ≠ "java/lang/invoke/VarHandle" := ⟨by decide +kernel, by decide +kernel⟩
theorem nh_8 : ("PutOffParade$TextReader" : String) ≠ "java/lang/invoke/MethodHandle" ∧ ("PutOffParade$TextReader" : String) ≠ "java/lang/invoke/VarHandle" := ⟨by decide +kernel, by decide +kernel⟩
theorem nh_9 : ("PutOffParade$Tokens" : String) ≠ "java/lang/invoke/MethodHandle" ∧ ("PutOffParade$Tokens" : String) ≠ "java/lang/invoke/VarHandle" := ⟨by decide +kernel, by decide +kernel⟩
theorem nh_10 : ("PutOffParade" : String) ≠ "java/lang/invoke/MethodHandle" ∧ ("PutOffParade" : String) ≠ "java/lang/invoke/VarHandle" := ⟨by decide +kernel, by decide +kernel⟩
theorem nh_11 : ("PutOffParadeModel" : String) ≠ "java/lang/invoke/MethodHandle" ∧ ("PutOffParadeModel" : String) ≠ "java/lang/invoke/VarHandle" := ⟨by decide +kernel, by decide +kernel⟩
theorem nh_12 : ("java/lang/Integer" : String) ≠ "java/lang/invoke/MethodHandle" ∧ ("java/lang/Integer" : String) ≠ "java/lang/invoke/VarHandle" := ⟨by decide +kernel, by decide +kernel⟩
theorem nh_13 : ("java/lang/String" : String) ≠ "java/lang/invoke/MethodHandle" ∧ ("java/lang/String" : String) ≠ "java/lang/invoke/VarHandle" := ⟨by decide +kernel, by decide +kernel⟩
theorem nh_14 : ("java/lang/StringLatin1" : String) ≠ "java/lang/invoke/MethodHandle" ∧ ("java/lang/StringLatin1" : String) ≠ "java/lang/invoke/VarHandle" := ⟨by decide +kernel, by decide +kernel⟩
theorem nh_15 : ("java/lang/StringUTF16" : String) ≠ "java/lang/invoke/MethodHandle" ∧ ("java/lang/StringUTF16" : String) ≠ "java/lang/invoke/VarHandle" := ⟨by decide +kernel, by decide +kernel⟩
theorem nh_16 : ("jdk/internal/util/Preconditions" : String) ≠ "java/lang/invoke/MethodHandle" ∧ ("jdk/internal/util/Preconditions" : String) ≠ "java/lang/invoke/VarHandle" := ⟨by decide +kernel, by decide +kernel⟩
theorem nh_17 : ("PutOffParadeLaw" : String) ≠ "java/lang/invoke/MethodHandle" ∧ ("PutOffParadeLaw" : String) ≠ "java/lang/invoke/VarHandle" := ⟨by decide +kernel, by decide +kernel⟩
theorem pd_0 : (parseMethodDescriptor "()V").map (fun d => d.parameters.length) = some 0 := by decide +kernel
theorem pd_1 : (parseMethodDescriptor "(LPutOffParade$Street;)I").map (fun d => d.parameters.length) = some 1 := by decide +kernel
theorem pd_2 : (parseMethodDescriptor "(LPutOffParade$Street;I)Z").map (fun d => d.parameters.length) = some 2 := by decide +kernel
theorem pd_3 : (parseMethodDescriptor "(LPutOffParade$Street;LPutOffParade$Law;I)I").map (fun d => d.parameters.length) = some 3 := by decide +kernel
theorem pd_4 : (parseMethodDescriptor "(LPutOffParade$Street;II)I").map (fun d => d.parameters.length) = some 3 := by decide +kernel
theorem pd_5 : (parseMethodDescriptor "(II)I").map (fun d => d.parameters.length) = some 2 := by decide +kernel
theorem pd_6 : (parseMethodDescriptor "(IIII)Z").map (fun d => d.parameters.length) = some 4 := by decide +kernel
theorem pd_7 : (parseMethodDescriptor "(IIII)I").map (fun d => d.parameters.length) = some 4 := by decide +kernel
theorem pd_8 : (parseMethodDescriptor "(III)I").map (fun d => d.parameters.length) = some 3 := by decide +kernel
theorem pd_9 : (parseMethodDescriptor "(II)J").map (fun d => d.parameters.length) = some 2 := by decide +kernel
theorem pd_10 : (parseMethodDescriptor "(LPutOffParade$Floats;)V").map (fun d => d.parameters.length) = some 1 := by decide +kernel
theorem pd_11 : (parseMethodDescriptor "(IIII)V").map (fun d => d.parameters.length) = some 4 := by decide +kernel
theorem pd_12 : (parseMethodDescriptor "(I)I").map (fun d => d.parameters.length) = some 1 := by decide +kernel
theorem pd_13 : (parseMethodDescriptor "(LPutOffParade$Law;)V").map (fun d => d.parameters.length) = some 1 := by decide +kernel
theorem pd_14 : (parseMethodDescriptor "(II)V").map (fun d => d.parameters.length) = some 2 := by decide +kernel
theorem pd_15 : (parseMethodDescriptor "(I)V").map (fun d => d.parameters.length) = some 1 := by decide +kernel
theorem pd_16 : (parseMethodDescriptor "(LPutOffParade$Street;I)I").map (fun d => d.parameters.length) = some 2 := by decide +kernel
theorem pd_17 : (parseMethodDescriptor "(LPutOffParade$Street;I)V").map (fun d => d.parameters.length) = some 2 := by decide +kernel
theorem pd_18 : (parseMethodDescriptor "(I)Z").map (fun d => d.parameters.length) = some 1 := by decide +kernel
theorem pd_19 : (parseMethodDescriptor "()I").map (fun d => d.parameters.length) = some 0 := by decide +kernel
theorem pd_20 : (parseMethodDescriptor "()Z").map (fun d => d.parameters.length) = some 0 := by decide +kernel
theorem pd_21 : (parseMethodDescriptor "(LPutOffParade$Street;)V").map (fun d => d.parameters.length) = some 1 := by decide +kernel
theorem pd_22 : (parseMethodDescriptor "(IIIII)V").map (fun d => d.parameters.length) = some 5 := by decide +kernel
theorem pd_23 : (parseMethodDescriptor "(II)Z").map (fun d => d.parameters.length) = some 2 := by decide +kernel
theorem pd_24 : (parseMethodDescriptor "(LPutOffParade$Law;Z)V").map (fun d => d.parameters.length) = some 2 := by decide +kernel
theorem pd_25 : (parseMethodDescriptor "(LPutOffParade$Law;I)I").map (fun d => d.parameters.length) = some 2 := by decide +kernel
theorem pd_26 : (parseMethodDescriptor "(LPutOffParade$Law;)I").map (fun d => d.parameters.length) = some 1 := by decide +kernel
theorem pd_27 : (parseMethodDescriptor "(LPutOffParade$Word;II)I").map (fun d => d.parameters.length) = some 3 := by decide +kernel
theorem pd_28 : (parseMethodDescriptor "(LPutOffParade$Tape;)V").map (fun d => d.parameters.length) = some 1 := by decide +kernel
theorem pd_29 : (parseMethodDescriptor "(LPutOffParade$Tape;I)I").map (fun d => d.parameters.length) = some 2 := by decide +kernel
theorem pd_30 : (parseMethodDescriptor "(LPutOffParade$Tape;ILjava/lang/String;)Z").map (fun d => d.parameters.length) = some 3 := by decide +kernel
theorem pd_31 : (parseMethodDescriptor "(C)Z").map (fun d => d.parameters.length) = some 1 := by decide +kernel
theorem pd_32 : (parseMethodDescriptor "(LPutOffParade$Word;)Z").map (fun d => d.parameters.length) = some 1 := by decide +kernel
theorem pd_33 : (parseMethodDescriptor "(IIIII)I").map (fun d => d.parameters.length) = some 5 := by decide +kernel
theorem pd_34 : (parseMethodDescriptor "(IZ)I").map (fun d => d.parameters.length) = some 2 := by decide +kernel
theorem pd_35 : (parseMethodDescriptor "(III)V").map (fun d => d.parameters.length) = some 3 := by decide +kernel
theorem pd_36 : (parseMethodDescriptor "(I)LPutOffParade$Street;").map (fun d => d.parameters.length) = some 1 := by decide +kernel
theorem pd_37 : (parseMethodDescriptor "([II)I").map (fun d => d.parameters.length) = some 2 := by decide +kernel
theorem pd_38 : (parseMethodDescriptor "([III)V").map (fun d => d.parameters.length) = some 3 := by decide +kernel
theorem pd_39 : (parseMethodDescriptor "([I[I)V").map (fun d => d.parameters.length) = some 2 := by decide +kernel
theorem pd_40 : (parseMethodDescriptor "(ZI)Z").map (fun d => d.parameters.length) = some 2 := by decide +kernel
theorem pd_41 : (parseMethodDescriptor "(III)Z").map (fun d => d.parameters.length) = some 3 := by decide +kernel
theorem pd_42 : (parseMethodDescriptor "(Ljava/lang/String;)Z").map (fun d => d.parameters.length) = some 1 := by decide +kernel
theorem pd_43 : (parseMethodDescriptor "(Ljava/lang/String;II)I").map (fun d => d.parameters.length) = some 3 := by decide +kernel
theorem pd_44 : (parseMethodDescriptor "(Z)I").map (fun d => d.parameters.length) = some 1 := by decide +kernel
theorem pd_45 : (parseMethodDescriptor "(I)C").map (fun d => d.parameters.length) = some 1 := by decide +kernel
theorem pd_46 : (parseMethodDescriptor "()B").map (fun d => d.parameters.length) = some 0 := by decide +kernel
theorem pd_47 : (parseMethodDescriptor "([BI)C").map (fun d => d.parameters.length) = some 2 := by decide +kernel
theorem pd_48 : (parseMethodDescriptor "([B)I").map (fun d => d.parameters.length) = some 1 := by decide +kernel
theorem pd_49 : (parseMethodDescriptor "(I[B)V").map (fun d => d.parameters.length) = some 2 := by decide +kernel
theorem pd_50 : (parseMethodDescriptor "(IILjava/util/function/BiFunction;)I").map (fun d => d.parameters.length) = some 3 := by decide +kernel
theorem pd_51 : (parseMethodDescriptor "(LPutOffParade;[J)I").map (fun d => d.parameters.length) = some 2 := by decide +kernel
theorem pd_52 : (parseMethodDescriptor "(LPutOffParade;II[J)I").map (fun d => d.parameters.length) = some 4 := by decide +kernel
theorem pd_53 : (parseMethodDescriptor "(LPutOffParade;I[J)I").map (fun d => d.parameters.length) = some 3 := by decide +kernel
theorem pd_54 : (parseMethodDescriptor "(LPutOffParade;III[J)I").map (fun d => d.parameters.length) = some 5 := by decide +kernel
theorem pd_55 : (parseMethodDescriptor "(LPutOffParade;IZ[J)I").map (fun d => d.parameters.length) = some 4 := by decide +kernel
set_option maxRecDepth 20000 in
theorem mo_X0_init : MOi m_X0_init 0 := ⟨⟨rfl, (inC2 (i := 67) rfl rfl), (inC1 (i := 10) rfl rfl), ⟨nh_0.1, nh_0.2, pd_0⟩, by decide +kernel⟩, (inC2 (i := 66) rfl rfl), rfl, rfl⟩
set_option maxRecDepth 20000 in
theorem mo_X0_mostCalled : MOv m_X0_mostCalled 1 := ⟨⟨rfl, (inC3 (i := 11) rfl rfl), (inC1 (i := 10) rfl rfl), ⟨nh_0.1, nh_0.2, pd_1⟩, by decide +kernel⟩, (inC3 (i := 9) rfl rfl), (inC3 (i := 10) rfl rfl)⟩
set_option maxRecDepth 20000 in
theorem mo_X0_canBeCalledTogether : MOv m_X0_canBeCalledTogether 2 := ⟨⟨rfl, (inC3 (i := 19) rfl rfl), (inC1 (i := 10) rfl rfl), ⟨nh_0.1, nh_0.2, pd_2⟩, by decide +kernel⟩, (inC3 (i := 18) rfl rfl), inT2 (i := 5) rfl rfl⟩
set_option maxRecDepth 20000 in
theorem mo_X0_leastShame : MOv m_X0_leastShame 3 := ⟨⟨rfl, (inC6 (i := 48) rfl rfl), (inC1 (i := 10) rfl rfl), ⟨nh_0.1, nh_0.2, pd_3⟩, by decide +kernel⟩, (inC6 (i := 46) rfl rfl), (inC6 (i := 47) rfl rfl)⟩
set_option maxRecDepth 20000 in
theorem mo_X0_leansWithin : MOs m_X0_leansWithin 2 := ⟨⟨rfl, (inC6 (i := 54) rfl rfl), (inC1 (i := 10) rfl rfl), ⟨nh_0.1, nh_0.2, pd_2⟩, by decide +kernel⟩, (inC6 (i := 53) rfl rfl)⟩
set_option maxRecDepth 20000 in
theorem mo_X0_firstSwap : MOs m_X0_firstSwap 3 := ⟨⟨rfl, (inC6 (i := 146) rfl rfl), (inC1 (i := 10) rfl rfl), ⟨nh_0.1, nh_0.2, pd_4⟩, by decide +kernel⟩, (inC6 (i := 145) rfl rfl)⟩
set_option maxRecDepth 20000 in
theorem mo_X0_gainOf : MOs m_X0_gainOf 3 := ⟨⟨rfl, (inC6 (i := 150) rfl rfl), (inC1 (i := 10) rfl rfl), ⟨nh_0.1, nh_0.2, pd_4⟩, by decide +kernel⟩, (inC6 (i := 149) rfl rfl)⟩
set_option maxRecDepth 20000 in
theorem mo_X0_restingChoices : MOs m_X0_restingChoices 2 := ⟨⟨rfl, (inC6 (i := 162) rfl rfl), (inC1 (i := 10) rfl rfl), ⟨nh_0.1, nh_0.2, pd_5⟩, by decide +kernel⟩, (inC6 (i := 161) rfl rfl)⟩
set_option maxRecDepth 20000 in
theorem mo_X0_isBest : MOs m_X0_isBest 4 := ⟨⟨rfl, (inC6 (i := 165) rfl rfl), (inC1 (i := 10) rfl rfl), ⟨nh_0.1, nh_0.2, pd_6⟩, by decide +kernel⟩, (inC6 (i := 164) rfl rfl)⟩
set_option maxRecDepth 20000 in
theorem mo_X0_payOf : MOs m_X0_payOf 4 := ⟨⟨rfl, (inC6 (i := 168) rfl rfl), (inC1 (i := 10) rfl rfl), ⟨nh_0.1, nh_0.2, pd_7⟩, by decide +kernel⟩, (inC6 (i := 167) rfl rfl)⟩
set_option maxRecDepth 20000 in
theorem mo_X0_oddsOf : MOs m_X0_oddsOf 3 := ⟨⟨rfl, (inC6 (i := 178) rfl rfl), (inC1 (i := 10) rfl rfl), ⟨nh_0.1, nh_0.2, pd_8⟩, by decide +kernel⟩, (inC6 (i := 177) rfl rfl)⟩
set_option maxRecDepth 20000 in
theorem mo_X0_power : MOs m_X0_power 2 := ⟨⟨rfl, (inC6 (i := 181) rfl rfl), (inC1 (i := 10) rfl rfl), ⟨nh_0.1, nh_0.2, pd_9⟩, by decide +kernel⟩, (inC6 (i := 180) rfl rfl)⟩
set_option maxRecDepth 20000 in
theorem mo_X0_daysToLeaveFree : MOs m_X0_daysToLeaveFree 3 := ⟨⟨rfl, (inC6 (i := 192) rfl rfl), (inC1 (i := 10) rfl rfl), ⟨nh_0.1, nh_0.2, pd_8⟩, by decide +kernel⟩, (inC6 (i := 191) rfl rfl)⟩
set_option maxRecDepth 20000 in
theorem mo_X1_init : MOi m_X1_init 0 := ⟨⟨rfl, (inC1 (i := 118) rfl rfl), (inC1 (i := 7) rfl rfl), ⟨nh_1.1, nh_1.2, pd_0⟩, by decide +kernel⟩, (inC1 (i := 117) rfl rfl), rfl, rfl⟩
set_option maxRecDepth 20000 in
theorem mo_X1_copyFrom : MOv m_X1_copyFrom 1 := ⟨⟨rfl, (inC3 (i := 185) rfl rfl), (inC1 (i := 7) rfl rfl), ⟨nh_1.1, nh_1.2, pd_10⟩, by decide +kernel⟩, (inC3 (i := 183) rfl rfl), (inC3 (i := 184) rfl rfl)⟩
set_option maxRecDepth 20000 in
theorem mo_X1_add : MOv m_X1_add 4 := ⟨⟨rfl, (inC6 (i := 6) rfl rfl), (inC1 (i := 7) rfl rfl), ⟨nh_1.1, nh_1.2, pd_11⟩, by decide +kernel⟩, (inC6 (i := 4) rfl rfl), (inC6 (i := 5) rfl rfl)⟩
set_option maxRecDepth 20000 in
theorem mo_X1_valueOf : MOv m_X1_valueOf 2 := ⟨⟨rfl, (inC7 (i := 11) rfl rfl), (inC1 (i := 7) rfl rfl), ⟨nh_1.1, nh_1.2, pd_5⟩, by decide +kernel⟩, (inC7 (i := 9) rfl rfl), (inC7 (i := 10) rfl rfl)⟩
set_option maxRecDepth 20000 in
theorem mo_X1_rowsOf : MOv m_X1_rowsOf 1 := ⟨⟨rfl, (inC7 (i := 16) rfl rfl), (inC1 (i := 7) rfl rfl), ⟨nh_1.1, nh_1.2, pd_12⟩, by decide +kernel⟩, (inC7 (i := 14) rfl rfl), (inC7 (i := 15) rfl rfl)⟩
set_option maxRecDepth 20000 in
theorem mo_X1_latestMonthOf : MOv m_X1_latestMonthOf 1 := ⟨⟨rfl, (inC7 (i := 7) rfl rfl), (inC1 (i := 7) rfl rfl), ⟨nh_1.1, nh_1.2, pd_12⟩, by decide +kernel⟩, (inC7 (i := 5) rfl rfl), (inC7 (i := 6) rfl rfl)⟩
set_option maxRecDepth 20000 in
theorem mo_X2_init : MOi m_X2_init 0 := ⟨⟨rfl, (inC2 (i := 12) rfl rfl), (inC1 (i := 9) rfl rfl), ⟨nh_2.1, nh_2.2, pd_0⟩, by decide +kernel⟩, (inC2 (i := 11) rfl rfl), rfl, rfl⟩
set_option maxRecDepth 20000 in
theorem mo_X2_copyFrom : MOv m_X2_copyFrom 1 := ⟨⟨rfl, (inC3 (i := 194) rfl rfl), (inC1 (i := 9) rfl rfl), ⟨nh_2.1, nh_2.2, pd_13⟩, by decide +kernel⟩, (inC3 (i := 192) rfl rfl), (inC3 (i := 193) rfl rfl)⟩
set_option maxRecDepth 20000 in
theorem mo_X2_clear : MOv m_X2_clear 0 := ⟨⟨rfl, (inC5 (i := 80) rfl rfl), (inC1 (i := 9) rfl rfl), ⟨nh_2.1, nh_2.2, pd_0⟩, by decide +kernel⟩, (inC5 (i := 78) rfl rfl), (inC5 (i := 79) rfl rfl)⟩
set_option maxRecDepth 20000 in
theorem mo_X2_openLine : MOv m_X2_openLine 2 := ⟨⟨rfl, (inC4 (i := 94) rfl rfl), (inC1 (i := 9) rfl rfl), ⟨nh_2.1, nh_2.2, pd_14⟩, by decide +kernel⟩, (inC4 (i := 92) rfl rfl), (inC4 (i := 93) rfl rfl)⟩
set_option maxRecDepth 20000 in
theorem mo_X2_emit : MOv m_X2_emit 1 := ⟨⟨rfl, (inC4 (i := 126) rfl rfl), (inC1 (i := 9) rfl rfl), ⟨nh_2.1, nh_2.2, pd_15⟩, by decide +kernel⟩, (inC4 (i := 124) rfl rfl), (inC4 (i := 125) rfl rfl)⟩
set_option maxRecDepth 20000 in
theorem mo_X2_closeLine : MOv m_X2_closeLine 0 := ⟨⟨rfl, (inC4 (i := 162) rfl rfl), (inC1 (i := 9) rfl rfl), ⟨nh_2.1, nh_2.2, pd_0⟩, by decide +kernel⟩, (inC4 (i := 160) rfl rfl), (inC4 (i := 161) rfl rfl)⟩
set_option maxRecDepth 20000 in
theorem mo_X2_growthOf : MOv m_X2_growthOf 2 := ⟨⟨rfl, (inC3 (i := 150) rfl rfl), (inC1 (i := 9) rfl rfl), ⟨nh_2.1, nh_2.2, pd_16⟩, by decide +kernel⟩, (inC3 (i := 148) rfl rfl), (inC3 (i := 149) rfl rfl)⟩
set_option maxRecDepth 20000 in
theorem mo_X2_shameOf : MOv m_X2_shameOf 2 := ⟨⟨rfl, (inC2 (i := 181) rfl rfl), (inC1 (i := 9) rfl rfl), ⟨nh_2.1, nh_2.2, pd_16⟩, by decide +kernel⟩, (inC2 (i := 179) rfl rfl), (inC2 (i := 180) rfl rfl)⟩
set_option maxRecDepth 20000 in
theorem mo_X2_shameOfSet : MOv m_X2_shameOfSet 2 := ⟨⟨rfl, (inC2 (i := 173) rfl rfl), (inC1 (i := 9) rfl rfl), ⟨nh_2.1, nh_2.2, pd_16⟩, by decide +kernel⟩, (inC2 (i := 171) rfl rfl), (inC2 (i := 172) rfl rfl)⟩
set_option maxRecDepth 20000 in
theorem mo_X2_takeParts : MOv m_X2_takeParts 2 := ⟨⟨rfl, (inC2 (i := 185) rfl rfl), (inC1 (i := 9) rfl rfl), ⟨nh_2.1, nh_2.2, pd_17⟩, by decide +kernel⟩, (inC2 (i := 184) rfl rfl), inT2 (i := 1) rfl rfl⟩
set_option maxRecDepth 20000 in
theorem mo_X2_setPart : MOv m_X2_setPart 2 := ⟨⟨rfl, (inC2 (i := 190) rfl rfl), (inC1 (i := 9) rfl rfl), ⟨nh_2.1, nh_2.2, pd_14⟩, by decide +kernel⟩, (inC2 (i := 189) rfl rfl), inT2 (i := 2) rfl rfl⟩
set_option maxRecDepth 20000 in
theorem mo_X2_sumOfLines : MOv m_X2_sumOfLines 1 := ⟨⟨rfl, (inC2 (i := 198) rfl rfl), (inC1 (i := 9) rfl rfl), ⟨nh_2.1, nh_2.2, pd_12⟩, by decide +kernel⟩, (inC2 (i := 197) rfl rfl), inT2 (i := 3) rfl rfl⟩
set_option maxRecDepth 20000 in
theorem mo_X2_holds : MOv m_X2_holds 1 := ⟨⟨rfl, (inC2 (i := 202) rfl rfl), (inC1 (i := 9) rfl rfl), ⟨nh_2.1, nh_2.2, pd_18⟩, by decide +kernel⟩, (inC2 (i := 201) rfl rfl), inT2 (i := 4) rfl rfl⟩
set_option maxRecDepth 20000 in
theorem mo_X2_joined : MOs m_X2_joined 3 := ⟨⟨rfl, (inC2 (i := 205) rfl rfl), (inC1 (i := 9) rfl rfl), ⟨nh_2.1, nh_2.2, pd_8⟩, by decide +kernel⟩, (inC2 (i := 204) rfl rfl)⟩
set_option maxRecDepth 20000 in
theorem mo_X3_init : MOi m_X3_init 0 := ⟨⟨rfl, (inC2 (i := 6) rfl rfl), (inC1 (i := 8) rfl rfl), ⟨nh_3.1, nh_3.2, pd_0⟩, by decide +kernel⟩, (inC2 (i := 5) rfl rfl), rfl, rfl⟩
set_option maxRecDepth 20000 in
theorem mo_X3_readLine : MO m_X3_readLine 0 := ⟨rfl, (inC4 (i := 72) rfl rfl), (inC1 (i := 8) rfl rfl), ⟨by decide +kernel, by decide +kernel, by decide +kernel⟩, by decide +kernel⟩
set_option maxRecDepth 20000 in
theorem mo_X3_takeKind : MOv m_X3_takeKind 0 := ⟨⟨rfl, (inC4 (i := 76) rfl rfl), (inC1 (i := 8) rfl rfl), ⟨nh_3.1, nh_3.2, pd_19⟩, by decide +kernel⟩, (inC4 (i := 75) rfl rfl), inT2 (i := 16) rfl rfl⟩
set_option maxRecDepth 20000 in
theorem mo_X3_readCondition : MOv m_X3_readCondition 0 := ⟨⟨rfl, (inC4 (i := 100) rfl rfl), (inC1 (i := 8) rfl rfl), ⟨nh_3.1, nh_3.2, pd_20⟩, by decide +kernel⟩, (inC4 (i := 99) rfl rfl), inT2 (i := 17) rfl rfl⟩
set_option maxRecDepth 20000 in
theorem mo_X3_joinAtHand : MOv m_X3_joinAtHand 0 := ⟨⟨rfl, (inC4 (i := 154) rfl rfl), (inC1 (i := 8) rfl rfl), ⟨nh_3.1, nh_3.2, pd_19⟩, by decide +kernel⟩, (inC4 (i := 153) rfl rfl), inT2 (i := 25) rfl rfl⟩
set_option maxRecDepth 20000 in
theorem mo_X3_openDeeper : MOv m_X3_openDeeper 0 := ⟨⟨rfl, (inC4 (i := 104) rfl rfl), (inC1 (i := 8) rfl rfl), ⟨nh_3.1, nh_3.2, pd_20⟩, by decide +kernel⟩, (inC4 (i := 103) rfl rfl), inT2 (i := 18) rfl rfl⟩
set_option maxRecDepth 20000 in
theorem mo_X3_closeDeeper : MOv m_X3_closeDeeper 0 := ⟨⟨rfl, (inC4 (i := 145) rfl rfl), (inC1 (i := 8) rfl rfl), ⟨nh_3.1, nh_3.2, pd_0⟩, by decide +kernel⟩, (inC4 (i := 144) rfl rfl), inT2 (i := 23) rfl rfl⟩
set_option maxRecDepth 20000 in
theorem mo_X3_hold : MOv m_X3_hold 1 := ⟨⟨rfl, (inC4 (i := 114) rfl rfl), (inC1 (i := 8) rfl rfl), ⟨nh_3.1, nh_3.2, pd_15⟩, by decide +kernel⟩, (inC4 (i := 113) rfl rfl), inT2 (i := 19) rfl rfl⟩
set_option maxRecDepth 20000 in
theorem mo_X3_emitHeld : MOv m_X3_emitHeld 1 := ⟨⟨rfl, (inC4 (i := 149) rfl rfl), (inC1 (i := 8) rfl rfl), ⟨nh_3.1, nh_3.2, pd_15⟩, by decide +kernel⟩, (inC4 (i := 148) rfl rfl), inT2 (i := 24) rfl rfl⟩
set_option maxRecDepth 20000 in
theorem mo_X3_readAtom : MOv m_X3_readAtom 0 := ⟨⟨rfl, (inC4 (i := 120) rfl rfl), (inC1 (i := 8) rfl rfl), ⟨nh_3.1, nh_3.2, pd_20⟩, by decide +kernel⟩, (inC4 (i := 119) rfl rfl), inT2 (i := 20) rfl rfl⟩
set_option maxRecDepth 20000 in
theorem mo_X3_readSum : MOv m_X3_readSum 0 := ⟨⟨rfl, (inC4 (i := 132) rfl rfl), (inC1 (i := 8) rfl rfl), ⟨nh_3.1, nh_3.2, pd_20⟩, by decide +kernel⟩, (inC4 (i := 131) rfl rfl), inT2 (i := 21) rfl rfl⟩
set_option maxRecDepth 20000 in
theorem mo_X3_partAtHand : MOv m_X3_partAtHand 0 := ⟨⟨rfl, (inC4 (i := 136) rfl rfl), (inC1 (i := 8) rfl rfl), ⟨nh_3.1, nh_3.2, pd_19⟩, by decide +kernel⟩, (inC4 (i := 135) rfl rfl), inT2 (i := 22) rfl rfl⟩
set_option maxRecDepth 20000 in
theorem mo_X4_chainOf : MOs m_X4_chainOf 2 := ⟨⟨rfl, (inC3 (i := 34) rfl rfl), (inC1 (i := 29) rfl rfl), ⟨nh_4.1, nh_4.2, pd_16⟩, by decide +kernel⟩, (inC3 (i := 33) rfl rfl)⟩
set_option maxRecDepth 20000 in
theorem mo_X4_leaningOn : MOs m_X4_leaningOn 2 := ⟨⟨rfl, (inC6 (i := 80) rfl rfl), (inC1 (i := 29) rfl rfl), ⟨nh_4.1, nh_4.2, pd_16⟩, by decide +kernel⟩, (inC6 (i := 79) rfl rfl)⟩
set_option maxRecDepth 20000 in
theorem mo_X4_ringBits : MOs m_X4_ringBits 1 := ⟨⟨rfl, (inC3 (i := 41) rfl rfl), (inC1 (i := 29) rfl rfl), ⟨nh_4.1, nh_4.2, pd_1⟩, by decide +kernel⟩, (inC3 (i := 40) rfl rfl)⟩
set_option maxRecDepth 20000 in
theorem mo_X4_hoursTill : MOs m_X4_hoursTill 2 := ⟨⟨rfl, (inC3 (i := 29) rfl rfl), (inC1 (i := 29) rfl rfl), ⟨nh_4.1, nh_4.2, pd_16⟩, by decide +kernel⟩, (inC3 (i := 28) rfl rfl)⟩
set_option maxRecDepth 20000 in
theorem mo_X4_hoursTillYoung : MOs m_X4_hoursTillYoung 2 := ⟨⟨rfl, (inC6 (i := 97) rfl rfl), (inC1 (i := 29) rfl rfl), ⟨nh_4.1, nh_4.2, pd_16⟩, by decide +kernel⟩, (inC6 (i := 96) rfl rfl)⟩
set_option maxRecDepth 20000 in
theorem mo_X4_hoursOf : MOs m_X4_hoursOf 2 := ⟨⟨rfl, (inC3 (i := 38) rfl rfl), (inC1 (i := 29) rfl rfl), ⟨nh_4.1, nh_4.2, pd_16⟩, by decide +kernel⟩, (inC3 (i := 37) rfl rfl)⟩
set_option maxRecDepth 20000 in
theorem mo_X5_init : MOi m_X5_init 0 := ⟨⟨rfl, (inC1 (i := 112) rfl rfl), (inC1 (i := 6) rfl rfl), ⟨nh_5.1, nh_5.2, pd_0⟩, by decide +kernel⟩, (inC1 (i := 111) rfl rfl), rfl, rfl⟩
set_option maxRecDepth 20000 in
theorem mo_X5_copyFrom : MOv m_X5_copyFrom 1 := ⟨⟨rfl, (inC3 (i := 109) rfl rfl), (inC1 (i := 6) rfl rfl), ⟨nh_5.1, nh_5.2, pd_21⟩, by decide +kernel⟩, (inC3 (i := 107) rfl rfl), (inC3 (i := 108) rfl rfl)⟩
set_option maxRecDepth 20000 in
theorem mo_X5_copyAll : MOv m_X5_copyAll 1 := ⟨⟨rfl, (inC3 (i := 180) rfl rfl), (inC1 (i := 6) rfl rfl), ⟨nh_5.1, nh_5.2, pd_21⟩, by decide +kernel⟩, (inC3 (i := 178) rfl rfl), (inC3 (i := 179) rfl rfl)⟩
set_option maxRecDepth 20000 in
theorem mo_X5_addPerson : MOv m_X5_addPerson 2 := ⟨⟨rfl, (inC4 (i := 186) rfl rfl), (inC1 (i := 6) rfl rfl), ⟨nh_5.1, nh_5.2, pd_14⟩, by decide +kernel⟩, (inC4 (i := 184) rfl rfl), (inC4 (i := 185) rfl rfl)⟩
set_option maxRecDepth 20000 in
theorem mo_X5_addDuty : MOv m_X5_addDuty 5 := ⟨⟨rfl, (inC4 (i := 206) rfl rfl), (inC1 (i := 6) rfl rfl), ⟨nh_5.1, nh_5.2, pd_22⟩, by decide +kernel⟩, (inC4 (i := 204) rfl rfl), (inC4 (i := 205) rfl rfl)⟩
set_option maxRecDepth 20000 in
theorem mo_X5_isWaiting : MOv m_X5_isWaiting 1 := ⟨⟨rfl, (inC2 (i := 161) rfl rfl), (inC1 (i := 6) rfl rfl), ⟨nh_5.1, nh_5.2, pd_18⟩, by decide +kernel⟩, (inC2 (i := 159) rfl rfl), (inC2 (i := 160) rfl rfl)⟩
set_option maxRecDepth 20000 in
theorem mo_X5_leansFreely : MOv m_X5_leansFreely 1 := ⟨⟨rfl, (inC2 (i := 165) rfl rfl), (inC1 (i := 6) rfl rfl), ⟨nh_5.1, nh_5.2, pd_18⟩, by decide +kernel⟩, (inC2 (i := 163) rfl rfl), (inC2 (i := 164) rfl rfl)⟩
set_option maxRecDepth 20000 in
theorem mo_X5_isReady : MOv m_X5_isReady 1 := ⟨⟨rfl, (inC2 (i := 157) rfl rfl), (inC1 (i := 6) rfl rfl), ⟨nh_5.1, nh_5.2, pd_18⟩, by decide +kernel⟩, (inC2 (i := 155) rfl rfl), (inC2 (i := 156) rfl rfl)⟩
set_option maxRecDepth 20000 in
theorem mo_X5_areAlike : MOv m_X5_areAlike 2 := ⟨⟨rfl, (inC3 (i := 101) rfl rfl), (inC1 (i := 6) rfl rfl), ⟨nh_5.1, nh_5.2, pd_23⟩, by decide +kernel⟩, (inC3 (i := 99) rfl rfl), (inC3 (i := 100) rfl rfl)⟩
set_option maxRecDepth 20000 in
theorem mo_X5_bitsIn : MOv m_X5_bitsIn 1 := ⟨⟨rfl, (inC2 (i := 143) rfl rfl), (inC1 (i := 6) rfl rfl), ⟨nh_5.1, nh_5.2, pd_12⟩, by decide +kernel⟩, (inC2 (i := 141) rfl rfl), (inC2 (i := 142) rfl rfl)⟩
set_option maxRecDepth 20000 in
theorem mo_X5_readyBits : MOv m_X5_readyBits 0 := ⟨⟨rfl, (inC2 (i := 153) rfl rfl), (inC1 (i := 6) rfl rfl), ⟨nh_5.1, nh_5.2, pd_19⟩, by decide +kernel⟩, (inC2 (i := 151) rfl rfl), (inC2 (i := 152) rfl rfl)⟩
set_option maxRecDepth 20000 in
theorem mo_X5_olderThan : MOv m_X5_olderThan 1 := ⟨⟨rfl, (inC2 (i := 237) rfl rfl), (inC1 (i := 6) rfl rfl), ⟨nh_5.1, nh_5.2, pd_12⟩, by decide +kernel⟩, (inC2 (i := 235) rfl rfl), (inC2 (i := 236) rfl rfl)⟩
set_option maxRecDepth 20000 in
theorem mo_X5_ownedBy : MOv m_X5_ownedBy 1 := ⟨⟨rfl, (inC3 (i := 87) rfl rfl), (inC1 (i := 6) rfl rfl), ⟨nh_5.1, nh_5.2, pd_12⟩, by decide +kernel⟩, (inC3 (i := 85) rfl rfl), (inC3 (i := 86) rfl rfl)⟩
set_option maxRecDepth 20000 in
theorem mo_X5_loadOf : MOv m_X5_loadOf 1 := ⟨⟨rfl, (inC3 (i := 83) rfl rfl), (inC1 (i := 6) rfl rfl), ⟨nh_5.1, nh_5.2, pd_12⟩, by decide +kernel⟩, (inC3 (i := 81) rfl rfl), (inC3 (i := 82) rfl rfl)⟩
set_option maxRecDepth 20000 in
theorem mo_X5_standingBetween : MOv m_X5_standingBetween 2 := ⟨⟨rfl, (inC6 (i := 125) rfl rfl), (inC1 (i := 6) rfl rfl), ⟨nh_5.1, nh_5.2, pd_5⟩, by decide +kernel⟩, (inC6 (i := 123) rfl rfl), (inC6 (i := 124) rfl rfl)⟩
set_option maxRecDepth 20000 in
theorem mo_X5_placeOf : MOv m_X5_placeOf 1 := ⟨⟨rfl, (inC2 (i := 220) rfl rfl), (inC1 (i := 6) rfl rfl), ⟨nh_5.1, nh_5.2, pd_12⟩, by decide +kernel⟩, (inC2 (i := 218) rfl rfl), (inC2 (i := 219) rfl rfl)⟩
set_option maxRecDepth 20000 in
theorem mo_X5_dutyAt : MOv m_X5_dutyAt 1 := ⟨⟨rfl, (inC2 (i := 216) rfl rfl), (inC1 (i := 6) rfl rfl), ⟨nh_5.1, nh_5.2, pd_12⟩, by decide +kernel⟩, (inC2 (i := 214) rfl rfl), (inC2 (i := 215) rfl rfl)⟩
set_option maxRecDepth 20000 in
theorem mo_X5_passesOf : MOv m_X5_passesOf 1 := ⟨⟨rfl, (inC2 (i := 232) rfl rfl), (inC1 (i := 6) rfl rfl), ⟨nh_5.1, nh_5.2, pd_12⟩, by decide +kernel⟩, (inC2 (i := 230) rfl rfl), (inC2 (i := 231) rfl rfl)⟩
set_option maxRecDepth 20000 in
theorem mo_X5_canBits : MOv m_X5_canBits 0 := ⟨⟨rfl, (inC2 (i := 228) rfl rfl), (inC1 (i := 6) rfl rfl), ⟨nh_5.1, nh_5.2, pd_19⟩, by decide +kernel⟩, (inC2 (i := 226) rfl rfl), (inC2 (i := 227) rfl rfl)⟩
set_option maxRecDepth 20000 in
theorem mo_X5_kerbAt : MOv m_X5_kerbAt 2 := ⟨⟨rfl, (inC6 (i := 30) rfl rfl), (inC1 (i := 6) rfl rfl), ⟨nh_5.1, nh_5.2, pd_5⟩, by decide +kernel⟩, (inC6 (i := 28) rfl rfl), (inC6 (i := 29) rfl rfl)⟩
set_option maxRecDepth 20000 in
theorem mo_X5_finish : MOv m_X5_finish 1 := ⟨⟨rfl, (inC3 (i := 142) rfl rfl), (inC1 (i := 6) rfl rfl), ⟨nh_5.1, nh_5.2, pd_15⟩, by decide +kernel⟩, (inC3 (i := 140) rfl rfl), (inC3 (i := 141) rfl rfl)⟩
set_option maxRecDepth 20000 in
theorem mo_X5_growOlder : MOv m_X5_growOlder 1 := ⟨⟨rfl, (inC3 (i := 154) rfl rfl), (inC1 (i := 6) rfl rfl), ⟨nh_5.1, nh_5.2, pd_15⟩, by decide +kernel⟩, (inC3 (i := 152) rfl rfl), (inC3 (i := 153) rfl rfl)⟩
set_option maxRecDepth 20000 in
theorem mo_X5_passDay : MOv m_X5_passDay 2 := ⟨⟨rfl, (inC3 (i := 126) rfl rfl), (inC1 (i := 6) rfl rfl), ⟨nh_5.1, nh_5.2, pd_24⟩, by decide +kernel⟩, (inC3 (i := 124) rfl rfl), (inC3 (i := 125) rfl rfl)⟩
set_option maxRecDepth 20000 in
theorem mo_X5_daysTillDone : MOv m_X5_daysTillDone 2 := ⟨⟨rfl, (inC6 (i := 204) rfl rfl), (inC1 (i := 6) rfl rfl), ⟨nh_5.1, nh_5.2, pd_25⟩, by decide +kernel⟩, (inC6 (i := 202) rfl rfl), (inC6 (i := 203) rfl rfl)⟩
set_option maxRecDepth 20000 in
theorem mo_X5_daysTillNoneWaits : MOv m_X5_daysTillNoneWaits 1 := ⟨⟨rfl, (inC3 (i := 122) rfl rfl), (inC1 (i := 6) rfl rfl), ⟨nh_5.1, nh_5.2, pd_26⟩, by decide +kernel⟩, (inC3 (i := 120) rfl rfl), (inC3 (i := 121) rfl rfl)⟩
set_option maxRecDepth 20000 in
theorem mo_X5_draw : MOv m_X5_draw 0 := ⟨⟨rfl, (inC3 (i := 130) rfl rfl), (inC1 (i := 6) rfl rfl), ⟨nh_5.1, nh_5.2, pd_19⟩, by decide +kernel⟩, (inC3 (i := 129) rfl rfl), inT2 (i := 7) rfl rfl⟩
set_option maxRecDepth 20000 in
theorem mo_X5_work : MOv m_X5_work 2 := ⟨⟨rfl, (inC3 (i := 135) rfl rfl), (inC1 (i := 6) rfl rfl), ⟨nh_5.1, nh_5.2, pd_5⟩, by decide +kernel⟩, (inC3 (i := 134) rfl rfl), inT2 (i := 8) rfl rfl⟩
set_option maxRecDepth 20000 in
theorem mo_X5_passMonth : MOv m_X5_passMonth 1 := ⟨⟨rfl, (inC3 (i := 146) rfl rfl), (inC1 (i := 6) rfl rfl), ⟨nh_5.1, nh_5.2, pd_13⟩, by decide +kernel⟩, (inC3 (i := 145) rfl rfl), inT2 (i := 9) rfl rfl⟩
set_option maxRecDepth 20000 in
theorem mo_X6_init : MOi m_X6_init 0 := ⟨⟨rfl, (inC1 (i := 58) rfl rfl), (inC1 (i := 4) rfl rfl), ⟨nh_6.1, nh_6.2, pd_0⟩, by decide +kernel⟩, (inC1 (i := 57) rfl rfl), rfl, rfl⟩
set_option maxRecDepth 20000 in
theorem mo_X6_readLine : MO m_X6_readLine 0 := ⟨rfl, (inC4 (i := 165) rfl rfl), (inC1 (i := 4) rfl rfl), ⟨by decide +kernel, by decide +kernel, by decide +kernel⟩, by decide +kernel⟩
set_option maxRecDepth 20000 in
theorem mo_X6_readPerson : MOv m_X6_readPerson 0 := ⟨⟨rfl, (inC4 (i := 171) rfl rfl), (inC1 (i := 4) rfl rfl), ⟨nh_6.1, nh_6.2, pd_20⟩, by decide +kernel⟩, (inC4 (i := 170) rfl rfl), inT2 (i := 26) rfl rfl⟩
set_option maxRecDepth 20000 in
theorem mo_X6_readDuty : MOv m_X6_readDuty 0 := ⟨⟨rfl, (inC4 (i := 192) rfl rfl), (inC1 (i := 4) rfl rfl), ⟨nh_6.1, nh_6.2, pd_20⟩, by decide +kernel⟩, (inC4 (i := 191) rfl rfl), inT2 (i := 28) rfl rfl⟩
set_option maxRecDepth 20000 in
theorem mo_X6_readForgotten : MOv m_X6_readForgotten 0 := ⟨⟨rfl, (inC4 (i := 212) rfl rfl), (inC1 (i := 4) rfl rfl), ⟨nh_6.1, nh_6.2, pd_20⟩, by decide +kernel⟩, (inC4 (i := 211) rfl rfl), inT2 (i := 29) rfl rfl⟩
set_option maxRecDepth 20000 in
theorem mo_X6_readSetting : MOv m_X6_readSetting 0 := ⟨⟨rfl, (inC4 (i := 218) rfl rfl), (inC1 (i := 4) rfl rfl), ⟨nh_6.1, nh_6.2, pd_20⟩, by decide +kernel⟩, (inC4 (i := 217) rfl rfl), inT2 (i := 30) rfl rfl⟩
set_option maxRecDepth 20000 in
theorem mo_X6_readNumberOf : MOv m_X6_readNumberOf 3 := ⟨⟨rfl, (inC4 (i := 178) rfl rfl), (inC1 (i := 4) rfl rfl), ⟨nh_6.1, nh_6.2, pd_27⟩, by decide +kernel⟩, (inC4 (i := 177) rfl rfl), inT2 (i := 27) rfl rfl⟩
set_option maxRecDepth 20000 in
theorem mo_X7_init : MOi m_X7_init 0 := ⟨⟨rfl, (inC1 (i := 42) rfl rfl), (inC1 (i := 2) rfl rfl), ⟨nh_7.1, nh_7.2, pd_0⟩, by decide +kernel⟩, (inC1 (i := 41) rfl rfl), rfl, rfl⟩
set_option maxRecDepth 20000 in
theorem mo_X7_append : MOv m_X7_append 1 := ⟨⟨rfl, (inC2 (i := 127) rfl rfl), (inC1 (i := 2) rfl rfl), ⟨nh_7.1, nh_7.2, pd_15⟩, by decide +kernel⟩, (inC2 (i := 125) rfl rfl), (inC2 (i := 126) rfl rfl)⟩
set_option maxRecDepth 20000 in
theorem mo_X7_byteAt : MOv m_X7_byteAt 1 := ⟨⟨rfl, (inC3 (i := 222) rfl rfl), (inC1 (i := 2) rfl rfl), ⟨nh_7.1, nh_7.2, pd_12⟩, by decide +kernel⟩, (inC3 (i := 220) rfl rfl), (inC3 (i := 221) rfl rfl)⟩
set_option maxRecDepth 20000 in
theorem mo_X8_init : MOi m_X8_init 1 := ⟨⟨rfl, (inC1 (i := 61) rfl rfl), (inC1 (i := 3) rfl rfl), ⟨nh_8.1, nh_8.2, pd_15⟩, by decide +kernel⟩, (inC1 (i := 60) rfl rfl), rfl, rfl⟩
set_option maxRecDepth 20000 in
theorem mo_X8_readLines : MO m_X8_readLines 1 := ⟨rfl, (inC3 (i := 214) rfl rfl), (inC1 (i := 3) rfl rfl), ⟨by decide +kernel, by decide +kernel, by decide +kernel⟩, by decide +kernel⟩
set_option maxRecDepth 20000 in
theorem mo_X9_init : MOi m_X9_init 0 := ⟨⟨rfl, (inC1 (i := 67) rfl rfl), (inC1 (i := 5) rfl rfl), ⟨nh_9.1, nh_9.2, pd_0⟩, by decide +kernel⟩, (inC1 (i := 66) rfl rfl), rfl, rfl⟩
set_option maxRecDepth 20000 in
theorem mo_X9_scan : MOv m_X9_scan 1 := ⟨⟨rfl, (inC3 (i := 218) rfl rfl), (inC1 (i := 5) rfl rfl), ⟨nh_9.1, nh_9.2, pd_28⟩, by decide +kernel⟩, (inC3 (i := 216) rfl rfl), (inC3 (i := 217) rfl rfl)⟩
set_option maxRecDepth 20000 in
theorem mo_X9_kindOf : MOs m_X9_kindOf 1 := ⟨⟨rfl, (inC3 (i := 225) rfl rfl), (inC1 (i := 5) rfl rfl), ⟨nh_9.1, nh_9.2, pd_12⟩, by decide +kernel⟩, (inC3 (i := 224) rfl rfl)⟩
set_option maxRecDepth 20000 in
theorem mo_X9_open : MOv m_X9_open 2 := ⟨⟨rfl, (inC3 (i := 229) rfl rfl), (inC1 (i := 5) rfl rfl), ⟨nh_9.1, nh_9.2, pd_14⟩, by decide +kernel⟩, (inC3 (i := 228) rfl rfl), inT2 (i := 11) rfl rfl⟩
set_option maxRecDepth 20000 in
theorem mo_X9_valueOf : MOv m_X9_valueOf 2 := ⟨⟨rfl, (inC3 (i := 234) rfl rfl), (inC1 (i := 5) rfl rfl), ⟨nh_9.1, nh_9.2, pd_29⟩, by decide +kernel⟩, (inC3 (i := 233) rfl rfl), inT2 (i := 12) rfl rfl⟩
set_option maxRecDepth 20000 in
theorem mo_X9_wordOf : MOv m_X9_wordOf 2 := ⟨⟨rfl, (inC3 (i := 239) rfl rfl), (inC1 (i := 5) rfl rfl), ⟨nh_9.1, nh_9.2, pd_29⟩, by decide +kernel⟩, (inC3 (i := 238) rfl rfl), inT2 (i := 13) rfl rfl⟩
set_option maxRecDepth 20000 in
theorem mo_X9_isText : MOv m_X9_isText 3 := ⟨⟨rfl, (inC4 (i := 5) rfl rfl), (inC1 (i := 5) rfl rfl), ⟨nh_9.1, nh_9.2, pd_30⟩, by decide +kernel⟩, (inC4 (i := 4) rfl rfl), inT2 (i := 14) rfl rfl⟩
set_option maxRecDepth 20000 in
theorem mo_X9_numberOf : MOv m_X9_numberOf 2 := ⟨⟨rfl, (inC4 (i := 57) rfl rfl), (inC1 (i := 5) rfl rfl), ⟨nh_9.1, nh_9.2, pd_29⟩, by decide +kernel⟩, (inC4 (i := 56) rfl rfl), inT2 (i := 15) rfl rfl⟩
set_option maxRecDepth 20000 in
theorem mo_X9_next : MOv m_X9_next 0 := ⟨⟨rfl, (inC4 (i := 61) rfl rfl), (inC1 (i := 5) rfl rfl), ⟨nh_9.1, nh_9.2, pd_0⟩, by decide +kernel⟩, (inC4 (i := 59) rfl rfl), (inC4 (i := 60) rfl rfl)⟩
set_option maxRecDepth 20000 in
theorem mo_X9_isEnd : MOv m_X9_isEnd 0 := ⟨⟨rfl, (inC4 (i := 66) rfl rfl), (inC1 (i := 5) rfl rfl), ⟨nh_9.1, nh_9.2, pd_20⟩, by decide +kernel⟩, (inC4 (i := 64) rfl rfl), (inC4 (i := 65) rfl rfl)⟩
set_option maxRecDepth 20000 in
theorem mo_X9_isSign : MOv m_X9_isSign 1 := ⟨⟨rfl, (inC4 (i := 110) rfl rfl), (inC1 (i := 5) rfl rfl), ⟨nh_9.1, nh_9.2, pd_31⟩, by decide +kernel⟩, (inC4 (i := 108) rfl rfl), (inC4 (i := 109) rfl rfl)⟩
set_option maxRecDepth 20000 in
theorem mo_X9_takeSign : MOv m_X9_takeSign 1 := ⟨⟨rfl, (inC4 (i := 140) rfl rfl), (inC1 (i := 5) rfl rfl), ⟨nh_9.1, nh_9.2, pd_31⟩, by decide +kernel⟩, (inC4 (i := 138) rfl rfl), (inC4 (i := 139) rfl rfl)⟩
set_option maxRecDepth 20000 in
theorem mo_X9_takeWord : MOv m_X9_takeWord 1 := ⟨⟨rfl, (inC4 (i := 82) rfl rfl), (inC1 (i := 5) rfl rfl), ⟨nh_9.1, nh_9.2, pd_32⟩, by decide +kernel⟩, (inC4 (i := 80) rfl rfl), (inC4 (i := 81) rfl rfl)⟩
set_option maxRecDepth 20000 in
theorem mo_X9_takeNumber : MOv m_X9_takeNumber 2 := ⟨⟨rfl, (inC4 (i := 90) rfl rfl), (inC1 (i := 5) rfl rfl), ⟨nh_9.1, nh_9.2, pd_5⟩, by decide +kernel⟩, (inC4 (i := 88) rfl rfl), (inC4 (i := 89) rfl rfl)⟩
set_option maxRecDepth 20000 in
theorem mo_X11_init : MOi m_X11_init 0 := ⟨⟨rfl, (inC1 (i := 34) rfl rfl), (inC1 (i := 1) rfl rfl), ⟨nh_10.1, nh_10.2, pd_0⟩, by decide +kernel⟩, (inC1 (i := 33) rfl rfl), rfl, rfl⟩
set_option maxRecDepth 20000 in
theorem mo_X11_feed : MOv m_X11_feed 5 := ⟨⟨rfl, (inC2 (i := 123) rfl rfl), (inC1 (i := 1) rfl rfl), ⟨nh_10.1, nh_10.2, pd_33⟩, by decide +kernel⟩, (inC2 (i := 121) rfl rfl), (inC2 (i := 122) rfl rfl)⟩
set_option maxRecDepth 20000 in
theorem mo_X11_end : MOv m_X11_end 1 := ⟨⟨rfl, (inC2 (i := 131) rfl rfl), (inC1 (i := 1) rfl rfl), ⟨nh_10.1, nh_10.2, pd_18⟩, by decide +kernel⟩, (inC2 (i := 129) rfl rfl), (inC2 (i := 130) rfl rfl)⟩
set_option maxRecDepth 20000 in
theorem mo_X11_street : MOv m_X11_street 0 := ⟨⟨rfl, (inC3 (i := 208) rfl rfl), (inC1 (i := 1) rfl rfl), ⟨nh_10.1, nh_10.2, pd_19⟩, by decide +kernel⟩, (inC3 (i := 206) rfl rfl), (inC3 (i := 207) rfl rfl)⟩
set_option maxRecDepth 20000 in
theorem mo_X11_law : MOv m_X11_law 0 := ⟨⟨rfl, (inC5 (i := 76) rfl rfl), (inC1 (i := 1) rfl rfl), ⟨nh_10.1, nh_10.2, pd_19⟩, by decide +kernel⟩, (inC5 (i := 74) rfl rfl), (inC5 (i := 75) rfl rfl)⟩
set_option maxRecDepth 20000 in
theorem mo_X11_fault : MOv m_X11_fault 0 := ⟨⟨rfl, (inC2 (i := 135) rfl rfl), (inC1 (i := 1) rfl rfl), ⟨nh_10.1, nh_10.2, pd_19⟩, by decide +kernel⟩, (inC2 (i := 133) rfl rfl), (inC2 (i := 134) rfl rfl)⟩
set_option maxRecDepth 20000 in
theorem mo_X11_person : MOv m_X11_person 2 := ⟨⟨rfl, (inC5 (i := 92) rfl rfl), (inC1 (i := 1) rfl rfl), ⟨nh_10.1, nh_10.2, pd_5⟩, by decide +kernel⟩, (inC5 (i := 90) rfl rfl), (inC5 (i := 91) rfl rfl)⟩
set_option maxRecDepth 20000 in
theorem mo_X11_duty : MOv m_X11_duty 2 := ⟨⟨rfl, (inC5 (i := 141) rfl rfl), (inC1 (i := 1) rfl rfl), ⟨nh_10.1, nh_10.2, pd_5⟩, by decide +kernel⟩, (inC5 (i := 139) rfl rfl), (inC5 (i := 140) rfl rfl)⟩
set_option maxRecDepth 20000 in
theorem mo_X11_count : MOv m_X11_count 1 := ⟨⟨rfl, (inC2 (i := 139) rfl rfl), (inC1 (i := 1) rfl rfl), ⟨nh_10.1, nh_10.2, pd_12⟩, by decide +kernel⟩, (inC2 (i := 137) rfl rfl), (inC2 (i := 138) rfl rfl)⟩
set_option maxRecDepth 20000 in
theorem mo_X11_call : MOv m_X11_call 1 := ⟨⟨rfl, (inC5 (i := 157) rfl rfl), (inC1 (i := 1) rfl rfl), ⟨nh_10.1, nh_10.2, pd_12⟩, by decide +kernel⟩, (inC5 (i := 155) rfl rfl), (inC5 (i := 156) rfl rfl)⟩
set_option maxRecDepth 20000 in
theorem mo_X11_put : MOv m_X11_put 1 := ⟨⟨rfl, (inC5 (i := 184) rfl rfl), (inC1 (i := 1) rfl rfl), ⟨nh_10.1, nh_10.2, pd_12⟩, by decide +kernel⟩, (inC5 (i := 182) rfl rfl), (inC5 (i := 183) rfl rfl)⟩
set_option maxRecDepth 20000 in
theorem mo_X11_forget : MOv m_X11_forget 1 := ⟨⟨rfl, (inC5 (i := 196) rfl rfl), (inC1 (i := 1) rfl rfl), ⟨nh_10.1, nh_10.2, pd_12⟩, by decide +kernel⟩, (inC5 (i := 194) rfl rfl), (inC5 (i := 195) rfl rfl)⟩
set_option maxRecDepth 20000 in
theorem mo_X11_recall : MOv m_X11_recall 1 := ⟨⟨rfl, (inC5 (i := 203) rfl rfl), (inC1 (i := 1) rfl rfl), ⟨nh_10.1, nh_10.2, pd_12⟩, by decide +kernel⟩, (inC5 (i := 201) rfl rfl), (inC5 (i := 202) rfl rfl)⟩
set_option maxRecDepth 20000 in
theorem mo_X11_hand : MOv m_X11_hand 2 := ⟨⟨rfl, (inC5 (i := 210) rfl rfl), (inC1 (i := 1) rfl rfl), ⟨nh_10.1, nh_10.2, pd_5⟩, by decide +kernel⟩, (inC5 (i := 208) rfl rfl), (inC5 (i := 209) rfl rfl)⟩
set_option maxRecDepth 20000 in
theorem mo_X11_lean : MOv m_X11_lean 2 := ⟨⟨rfl, (inC5 (i := 220) rfl rfl), (inC1 (i := 1) rfl rfl), ⟨nh_10.1, nh_10.2, pd_5⟩, by decide +kernel⟩, (inC5 (i := 218) rfl rfl), (inC5 (i := 219) rfl rfl)⟩
set_option maxRecDepth 20000 in
theorem mo_X11_free : MOv m_X11_free 2 := ⟨⟨rfl, (inC5 (i := 227) rfl rfl), (inC1 (i := 1) rfl rfl), ⟨nh_10.1, nh_10.2, pd_5⟩, by decide +kernel⟩, (inC5 (i := 225) rfl rfl), (inC5 (i := 226) rfl rfl)⟩
set_option maxRecDepth 20000 in
theorem mo_X11_days : MOv m_X11_days 1 := ⟨⟨rfl, (inC5 (i := 237) rfl rfl), (inC1 (i := 1) rfl rfl), ⟨nh_10.1, nh_10.2, pd_12⟩, by decide +kernel⟩, (inC5 (i := 235) rfl rfl), (inC5 (i := 236) rfl rfl)⟩
set_option maxRecDepth 20000 in
theorem mo_X11_parade : MOv m_X11_parade 1 := ⟨⟨rfl, (inC2 (i := 212) rfl rfl), (inC1 (i := 1) rfl rfl), ⟨nh_10.1, nh_10.2, pd_12⟩, by decide +kernel⟩, (inC2 (i := 210) rfl rfl), (inC2 (i := 211) rfl rfl)⟩
set_option maxRecDepth 20000 in
theorem mo_X11_can : MOv m_X11_can 0 := ⟨⟨rfl, (inC2 (i := 224) rfl rfl), (inC1 (i := 1) rfl rfl), ⟨nh_10.1, nh_10.2, pd_19⟩, by decide +kernel⟩, (inC2 (i := 222) rfl rfl), (inC2 (i := 223) rfl rfl)⟩
set_option maxRecDepth 20000 in
theorem mo_X11_greets : MOv m_X11_greets 2 := ⟨⟨rfl, (inC6 (i := 16) rfl rfl), (inC1 (i := 1) rfl rfl), ⟨nh_10.1, nh_10.2, pd_5⟩, by decide +kernel⟩, (inC6 (i := 14) rfl rfl), (inC6 (i := 15) rfl rfl)⟩
set_option maxRecDepth 20000 in
theorem mo_X11_where : MOv m_X11_where 2 := ⟨⟨rfl, (inC6 (i := 26) rfl rfl), (inC1 (i := 1) rfl rfl), ⟨nh_10.1, nh_10.2, pd_5⟩, by decide +kernel⟩, (inC6 (i := 24) rfl rfl), (inC6 (i := 25) rfl rfl)⟩
set_option maxRecDepth 20000 in
theorem mo_X11_crowd : MOv m_X11_crowd 3 := ⟨⟨rfl, (inC6 (i := 37) rfl rfl), (inC1 (i := 1) rfl rfl), ⟨nh_10.1, nh_10.2, pd_8⟩, by decide +kernel⟩, (inC6 (i := 35) rfl rfl), (inC6 (i := 36) rfl rfl)⟩
set_option maxRecDepth 20000 in
theorem mo_X11_most : MOv m_X11_most 0 := ⟨⟨rfl, (inC3 (i := 7) rfl rfl), (inC1 (i := 1) rfl rfl), ⟨nh_10.1, nh_10.2, pd_19⟩, by decide +kernel⟩, (inC3 (i := 5) rfl rfl), (inC3 (i := 6) rfl rfl)⟩
set_option maxRecDepth 20000 in
theorem mo_X11_does : MOv m_X11_does 2 := ⟨⟨rfl, (inC6 (i := 44) rfl rfl), (inC1 (i := 1) rfl rfl), ⟨nh_10.1, nh_10.2, pd_34⟩, by decide +kernel⟩, (inC6 (i := 42) rfl rfl), (inC6 (i := 43) rfl rfl)⟩
set_option maxRecDepth 20000 in
theorem mo_X11_soon : MOv m_X11_soon 1 := ⟨⟨rfl, (inC6 (i := 62) rfl rfl), (inC1 (i := 1) rfl rfl), ⟨nh_10.1, nh_10.2, pd_12⟩, by decide +kernel⟩, (inC6 (i := 60) rfl rfl), (inC6 (i := 61) rfl rfl)⟩
set_option maxRecDepth 20000 in
theorem mo_X11_longest : MOv m_X11_longest 0 := ⟨⟨rfl, (inC3 (i := 26) rfl rfl), (inC1 (i := 1) rfl rfl), ⟨nh_10.1, nh_10.2, pd_19⟩, by decide +kernel⟩, (inC3 (i := 24) rfl rfl), (inC3 (i := 25) rfl rfl)⟩
set_option maxRecDepth 20000 in
theorem mo_X11_ring : MOv m_X11_ring 0 := ⟨⟨rfl, (inC3 (i := 51) rfl rfl), (inC1 (i := 1) rfl rfl), ⟨nh_10.1, nh_10.2, pd_19⟩, by decide +kernel⟩, (inC3 (i := 49) rfl rfl), (inC3 (i := 50) rfl rfl)⟩
set_option maxRecDepth 20000 in
theorem mo_X11_before : MOv m_X11_before 1 := ⟨⟨rfl, (inC6 (i := 69) rfl rfl), (inC1 (i := 1) rfl rfl), ⟨nh_10.1, nh_10.2, pd_12⟩, by decide +kernel⟩, (inC6 (i := 67) rfl rfl), (inC6 (i := 68) rfl rfl)⟩
set_option maxRecDepth 20000 in
theorem mo_X11_after : MOv m_X11_after 1 := ⟨⟨rfl, (inC6 (i := 77) rfl rfl), (inC1 (i := 1) rfl rfl), ⟨nh_10.1, nh_10.2, pd_12⟩, by decide +kernel⟩, (inC6 (i := 75) rfl rfl), (inC6 (i := 76) rfl rfl)⟩
set_option maxRecDepth 20000 in
theorem mo_X11_depth : MOv m_X11_depth 1 := ⟨⟨rfl, (inC6 (i := 87) rfl rfl), (inC1 (i := 1) rfl rfl), ⟨nh_10.1, nh_10.2, pd_12⟩, by decide +kernel⟩, (inC6 (i := 85) rfl rfl), (inC6 (i := 86) rfl rfl)⟩
set_option maxRecDepth 20000 in
theorem mo_X11_young : MOv m_X11_young 1 := ⟨⟨rfl, (inC6 (i := 94) rfl rfl), (inC1 (i := 1) rfl rfl), ⟨nh_10.1, nh_10.2, pd_12⟩, by decide +kernel⟩, (inC6 (i := 92) rfl rfl), (inC6 (i := 93) rfl rfl)⟩
set_option maxRecDepth 20000 in
theorem mo_X11_older : MOv m_X11_older 1 := ⟨⟨rfl, (inC6 (i := 105) rfl rfl), (inC1 (i := 1) rfl rfl), ⟨nh_10.1, nh_10.2, pd_12⟩, by decide +kernel⟩, (inC6 (i := 103) rfl rfl), (inC6 (i := 104) rfl rfl)⟩
set_option maxRecDepth 20000 in
theorem mo_X11_whose : MOv m_X11_whose 0 := ⟨⟨rfl, (inC6 (i := 112) rfl rfl), (inC1 (i := 1) rfl rfl), ⟨nh_10.1, nh_10.2, pd_19⟩, by decide +kernel⟩, (inC6 (i := 110) rfl rfl), (inC6 (i := 111) rfl rfl)⟩
set_option maxRecDepth 20000 in
theorem mo_X11_ask : MOv m_X11_ask 0 := ⟨⟨rfl, (inC6 (i := 132) rfl rfl), (inC1 (i := 1) rfl rfl), ⟨nh_10.1, nh_10.2, pd_19⟩, by decide +kernel⟩, (inC6 (i := 130) rfl rfl), (inC6 (i := 131) rfl rfl)⟩
set_option maxRecDepth 20000 in
theorem mo_X11_gap : MOv m_X11_gap 0 := ⟨⟨rfl, (inC3 (i := 56) rfl rfl), (inC1 (i := 1) rfl rfl), ⟨nh_10.1, nh_10.2, pd_19⟩, by decide +kernel⟩, (inC3 (i := 54) rfl rfl), (inC3 (i := 55) rfl rfl)⟩
set_option maxRecDepth 20000 in
theorem mo_X11_lost : MOv m_X11_lost 0 := ⟨⟨rfl, (inC3 (i := 67) rfl rfl), (inC1 (i := 1) rfl rfl), ⟨nh_10.1, nh_10.2, pd_19⟩, by decide +kernel⟩, (inC3 (i := 65) rfl rfl), (inC3 (i := 66) rfl rfl)⟩
set_option maxRecDepth 20000 in
theorem mo_X11_missed : MOv m_X11_missed 0 := ⟨⟨rfl, (inC3 (i := 71) rfl rfl), (inC1 (i := 1) rfl rfl), ⟨nh_10.1, nh_10.2, pd_19⟩, by decide +kernel⟩, (inC3 (i := 69) rfl rfl), (inC3 (i := 70) rfl rfl)⟩
set_option maxRecDepth 20000 in
theorem mo_X11_swap : MOv m_X11_swap 2 := ⟨⟨rfl, (inC6 (i := 143) rfl rfl), (inC1 (i := 1) rfl rfl), ⟨nh_10.1, nh_10.2, pd_5⟩, by decide +kernel⟩, (inC6 (i := 141) rfl rfl), (inC6 (i := 142) rfl rfl)⟩
set_option maxRecDepth 20000 in
theorem mo_X11_rests : MOv m_X11_rests 3 := ⟨⟨rfl, (inC6 (i := 159) rfl rfl), (inC1 (i := 1) rfl rfl), ⟨nh_10.1, nh_10.2, pd_8⟩, by decide +kernel⟩, (inC6 (i := 157) rfl rfl), (inC6 (i := 158) rfl rfl)⟩
set_option maxRecDepth 20000 in
theorem mo_X11_sponsor : MOv m_X11_sponsor 0 := ⟨⟨rfl, (inC3 (i := 75) rfl rfl), (inC1 (i := 1) rfl rfl), ⟨nh_10.1, nh_10.2, pd_19⟩, by decide +kernel⟩, (inC3 (i := 73) rfl rfl), (inC3 (i := 74) rfl rfl)⟩
set_option maxRecDepth 20000 in
theorem mo_X11_idle : MOv m_X11_idle 0 := ⟨⟨rfl, (inC3 (i := 79) rfl rfl), (inC1 (i := 1) rfl rfl), ⟨nh_10.1, nh_10.2, pd_19⟩, by decide +kernel⟩, (inC3 (i := 77) rfl rfl), (inC3 (i := 78) rfl rfl)⟩
set_option maxRecDepth 20000 in
theorem mo_X11_worst : MOv m_X11_worst 0 := ⟨⟨rfl, (inC3 (i := 92) rfl rfl), (inC1 (i := 1) rfl rfl), ⟨nh_10.1, nh_10.2, pd_19⟩, by decide +kernel⟩, (inC3 (i := 90) rfl rfl), (inC3 (i := 91) rfl rfl)⟩
set_option maxRecDepth 20000 in
theorem mo_X11_alike : MOv m_X11_alike 0 := ⟨⟨rfl, (inC3 (i := 97) rfl rfl), (inC1 (i := 1) rfl rfl), ⟨nh_10.1, nh_10.2, pd_19⟩, by decide +kernel⟩, (inC3 (i := 95) rfl rfl), (inC3 (i := 96) rfl rfl)⟩
set_option maxRecDepth 20000 in
theorem mo_X11_odds : MOv m_X11_odds 2 := ⟨⟨rfl, (inC6 (i := 175) rfl rfl), (inC1 (i := 1) rfl rfl), ⟨nh_10.1, nh_10.2, pd_5⟩, by decide +kernel⟩, (inC6 (i := 173) rfl rfl), (inC6 (i := 174) rfl rfl)⟩
set_option maxRecDepth 20000 in
theorem mo_X11_spare : MOv m_X11_spare 2 := ⟨⟨rfl, (inC6 (i := 189) rfl rfl), (inC1 (i := 1) rfl rfl), ⟨nh_10.1, nh_10.2, pd_5⟩, by decide +kernel⟩, (inC6 (i := 187) rfl rfl), (inC6 (i := 188) rfl rfl)⟩
set_option maxRecDepth 20000 in
theorem mo_X11_done : MOv m_X11_done 1 := ⟨⟨rfl, (inC6 (i := 200) rfl rfl), (inC1 (i := 1) rfl rfl), ⟨nh_10.1, nh_10.2, pd_12⟩, by decide +kernel⟩, (inC6 (i := 198) rfl rfl), (inC6 (i := 199) rfl rfl)⟩
set_option maxRecDepth 20000 in
theorem mo_X11_all : MOv m_X11_all 0 := ⟨⟨rfl, (inC3 (i := 105) rfl rfl), (inC1 (i := 1) rfl rfl), ⟨nh_10.1, nh_10.2, pd_19⟩, by decide +kernel⟩, (inC3 (i := 103) rfl rfl), (inC3 (i := 104) rfl rfl)⟩
set_option maxRecDepth 20000 in
theorem mo_X11_help : MOv m_X11_help 0 := ⟨⟨rfl, (inC3 (i := 158) rfl rfl), (inC1 (i := 1) rfl rfl), ⟨nh_10.1, nh_10.2, pd_19⟩, by decide +kernel⟩, (inC3 (i := 156) rfl rfl), (inC3 (i := 157) rfl rfl)⟩
set_option maxRecDepth 20000 in
theorem mo_X11_crux : MOv m_X11_crux 0 := ⟨⟨rfl, (inC3 (i := 163) rfl rfl), (inC1 (i := 1) rfl rfl), ⟨nh_10.1, nh_10.2, pd_19⟩, by decide +kernel⟩, (inC3 (i := 161) rfl rfl), (inC3 (i := 162) rfl rfl)⟩
set_option maxRecDepth 20000 in
theorem mo_X11_sick : MOv m_X11_sick 1 := ⟨⟨rfl, (inC6 (i := 211) rfl rfl), (inC1 (i := 1) rfl rfl), ⟨nh_10.1, nh_10.2, pd_12⟩, by decide +kernel⟩, (inC6 (i := 209) rfl rfl), (inC6 (i := 210) rfl rfl)⟩
set_option maxRecDepth 20000 in
theorem mo_X11_ahead : MOv m_X11_ahead 3 := ⟨⟨rfl, (inC6 (i := 218) rfl rfl), (inC1 (i := 1) rfl rfl), ⟨nh_10.1, nh_10.2, pd_8⟩, by decide +kernel⟩, (inC6 (i := 216) rfl rfl), (inC6 (i := 217) rfl rfl)⟩
set_option maxRecDepth 20000 in
theorem mo_X11_trial : MOv m_X11_trial 2 := ⟨⟨rfl, (inC6 (i := 225) rfl rfl), (inC1 (i := 1) rfl rfl), ⟨nh_10.1, nh_10.2, pd_34⟩, by decide +kernel⟩, (inC6 (i := 223) rfl rfl), (inC6 (i := 224) rfl rfl)⟩
set_option maxRecDepth 20000 in
theorem mo_X11_span : MOv m_X11_span 2 := ⟨⟨rfl, (inC6 (i := 236) rfl rfl), (inC1 (i := 1) rfl rfl), ⟨nh_10.1, nh_10.2, pd_34⟩, by decide +kernel⟩, (inC6 (i := 234) rfl rfl), (inC6 (i := 235) rfl rfl)⟩
set_option maxRecDepth 20000 in
theorem mo_X11_led : MOv m_X11_led 2 := ⟨⟨rfl, (inC7 (i := 3) rfl rfl), (inC1 (i := 1) rfl rfl), ⟨nh_10.1, nh_10.2, pd_34⟩, by decide +kernel⟩, (inC7 (i := 1) rfl rfl), (inC7 (i := 2) rfl rfl)⟩
set_option maxRecDepth 20000 in
theorem mo_X11_log : MOv m_X11_log 2 := ⟨⟨rfl, (inC7 (i := 23) rfl rfl), (inC1 (i := 1) rfl rfl), ⟨nh_10.1, nh_10.2, pd_5⟩, by decide +kernel⟩, (inC7 (i := 21) rfl rfl), (inC7 (i := 22) rfl rfl)⟩
set_option maxRecDepth 20000 in
theorem mo_X11_seed : MOv m_X11_seed 1 := ⟨⟨rfl, (inC3 (i := 168) rfl rfl), (inC1 (i := 1) rfl rfl), ⟨nh_10.1, nh_10.2, pd_12⟩, by decide +kernel⟩, (inC3 (i := 166) rfl rfl), (inC3 (i := 167) rfl rfl)⟩
set_option maxRecDepth 20000 in
theorem mo_X11_undo : MOv m_X11_undo 0 := ⟨⟨rfl, (inC3 (i := 172) rfl rfl), (inC1 (i := 1) rfl rfl), ⟨nh_10.1, nh_10.2, pd_20⟩, by decide +kernel⟩, (inC3 (i := 170) rfl rfl), (inC3 (i := 171) rfl rfl)⟩
set_option maxRecDepth 20000 in
theorem mo_X11_image : MOv m_X11_image 0 := ⟨⟨rfl, (inC3 (i := 190) rfl rfl), (inC1 (i := 1) rfl rfl), ⟨nh_10.1, nh_10.2, pd_0⟩, by decide +kernel⟩, (inC3 (i := 188) rfl rfl), (inC3 (i := 189) rfl rfl)⟩
set_option maxRecDepth 20000 in
theorem mo_X11_back : MOv m_X11_back 0 := ⟨⟨rfl, (inC3 (i := 199) rfl rfl), (inC1 (i := 1) rfl rfl), ⟨nh_10.1, nh_10.2, pd_20⟩, by decide +kernel⟩, (inC3 (i := 197) rfl rfl), (inC3 (i := 198) rfl rfl)⟩
set_option maxRecDepth 20000 in
theorem mo_X11_needPerson : MOv m_X11_needPerson 1 := ⟨⟨rfl, (inC5 (i := 96) rfl rfl), (inC1 (i := 1) rfl rfl), ⟨nh_10.1, nh_10.2, pd_15⟩, by decide +kernel⟩, (inC5 (i := 95) rfl rfl), inT2 (i := 32) rfl rfl⟩
set_option maxRecDepth 20000 in
theorem mo_X11_needDuty : MOv m_X11_needDuty 1 := ⟨⟨rfl, (inC5 (i := 145) rfl rfl), (inC1 (i := 1) rfl rfl), ⟨nh_10.1, nh_10.2, pd_15⟩, by decide +kernel⟩, (inC5 (i := 144) rfl rfl), inT2 (i := 34) rfl rfl⟩
set_option maxRecDepth 20000 in
theorem mo_X11_needKerb : MOs m_X11_needKerb 1 := ⟨⟨rfl, (inC6 (i := 19) rfl rfl), (inC1 (i := 1) rfl rfl), ⟨nh_10.1, nh_10.2, pd_15⟩, by decide +kernel⟩, (inC6 (i := 18) rfl rfl)⟩
set_option maxRecDepth 20000 in
theorem mo_X11_needNumber : MOs m_X11_needNumber 3 := ⟨⟨rfl, (inC5 (i := 230) rfl rfl), (inC1 (i := 1) rfl rfl), ⟨nh_10.1, nh_10.2, pd_35⟩, by decide +kernel⟩, (inC5 (i := 229) rfl rfl)⟩
set_option maxRecDepth 20000 in
theorem mo_X11_needTwo : MOs m_X11_needTwo 2 := ⟨⟨rfl, (inC5 (i := 213) rfl rfl), (inC1 (i := 1) rfl rfl), ⟨nh_10.1, nh_10.2, pd_14⟩, by decide +kernel⟩, (inC5 (i := 212) rfl rfl)⟩
set_option maxRecDepth 20000 in
theorem mo_X11_needState : MOv m_X11_needState 2 := ⟨⟨rfl, (inC5 (i := 188) rfl rfl), (inC1 (i := 1) rfl rfl), ⟨nh_10.1, nh_10.2, pd_14⟩, by decide +kernel⟩, (inC5 (i := 187) rfl rfl), inT2 (i := 36) rfl rfl⟩
set_option maxRecDepth 20000 in
theorem mo_X11_pastAt : MOv m_X11_pastAt 1 := ⟨⟨rfl, (inC3 (i := 176) rfl rfl), (inC1 (i := 1) rfl rfl), ⟨nh_10.1, nh_10.2, pd_36⟩, by decide +kernel⟩, (inC3 (i := 175) rfl rfl), inT2 (i := 10) rfl rfl⟩
set_option maxRecDepth 20000 in
theorem mo_X11_rememberAct : MOv m_X11_rememberAct 0 := ⟨⟨rfl, (inC5 (i := 177) rfl rfl), (inC1 (i := 1) rfl rfl), ⟨nh_10.1, nh_10.2, pd_0⟩, by decide +kernel⟩, (inC5 (i := 176) rfl rfl), inT2 (i := 35) rfl rfl⟩
set_option maxRecDepth 20000 in
theorem mo_X11_letParadeGoBy : MOv m_X11_letParadeGoBy 0 := ⟨⟨rfl, (inC6 (i := 2) rfl rfl), (inC1 (i := 1) rfl rfl), ⟨nh_10.1, nh_10.2, pd_0⟩, by decide +kernel⟩, (inC6 (i := 1) rfl rfl), inT2 (i := 37) rfl rfl⟩
set_option maxRecDepth 20000 in
theorem mo_X11_shameTriedOut : MOv m_X11_shameTriedOut 2 := ⟨⟨rfl, (inC6 (i := 229) rfl rfl), (inC1 (i := 1) rfl rfl), ⟨nh_10.1, nh_10.2, pd_5⟩, by decide +kernel⟩, (inC6 (i := 228) rfl rfl), inT2 (i := 41) rfl rfl⟩
set_option maxRecDepth 20000 in
theorem mo_X11_shameOfWaiting : MOv m_X11_shameOfWaiting 1 := ⟨⟨rfl, (inC2 (i := 169) rfl rfl), (inC1 (i := 1) rfl rfl), ⟨nh_10.1, nh_10.2, pd_1⟩, by decide +kernel⟩, (inC2 (i := 168) rfl rfl), inT2 (i := 0) rfl rfl⟩
set_option maxRecDepth 20000 in
theorem mo_X11_shareOf : MOv m_X11_shareOf 1 := ⟨⟨rfl, (inC5 (i := 119) rfl rfl), (inC1 (i := 1) rfl rfl), ⟨nh_10.1, nh_10.2, pd_12⟩, by decide +kernel⟩, (inC5 (i := 118) rfl rfl), inT2 (i := 33) rfl rfl⟩
set_option maxRecDepth 20000 in
theorem mo_X11_isGap : MOv m_X11_isGap 1 := ⟨⟨rfl, (inC3 (i := 60) rfl rfl), (inC1 (i := 1) rfl rfl), ⟨nh_10.1, nh_10.2, pd_18⟩, by decide +kernel⟩, (inC3 (i := 59) rfl rfl), inT2 (i := 6) rfl rfl⟩
set_option maxRecDepth 20000 in
theorem mo_X11_takeWhoFits : MOv m_X11_takeWhoFits 0 := ⟨⟨rfl, (inC6 (i := 116) rfl rfl), (inC1 (i := 1) rfl rfl), ⟨nh_10.1, nh_10.2, pd_19⟩, by decide +kernel⟩, (inC6 (i := 115) rfl rfl), inT2 (i := 38) rfl rfl⟩
set_option maxRecDepth 20000 in
theorem mo_X11_whoFits : MOv m_X11_whoFits 0 := ⟨⟨rfl, (inC6 (i := 120) rfl rfl), (inC1 (i := 1) rfl rfl), ⟨nh_10.1, nh_10.2, pd_19⟩, by decide +kernel⟩, (inC6 (i := 119) rfl rfl), inT2 (i := 39) rfl rfl⟩
set_option maxRecDepth 20000 in
theorem mo_X11_kerbToAskFor : MOv m_X11_kerbToAskFor 1 := ⟨⟨rfl, (inC6 (i := 136) rfl rfl), (inC1 (i := 1) rfl rfl), ⟨nh_10.1, nh_10.2, pd_12⟩, by decide +kernel⟩, (inC6 (i := 135) rfl rfl), inT2 (i := 40) rfl rfl⟩
set_option maxRecDepth 20000 in
theorem mo_X11_needsOf : MOs m_X11_needsOf 2 := ⟨⟨rfl, (inC5 (i := 115) rfl rfl), (inC1 (i := 1) rfl rfl), ⟨nh_10.1, nh_10.2, pd_5⟩, by decide +kernel⟩, (inC5 (i := 114) rfl rfl)⟩
set_option maxRecDepth 20000 in
theorem mo_X11_at : MOs m_X11_at 2 := ⟨⟨rfl, (inC2 (i := 146) rfl rfl), (inC1 (i := 1) rfl rfl), ⟨nh_10.1, nh_10.2, pd_37⟩, by decide +kernel⟩, (inC2 (i := 145) rfl rfl)⟩
set_option maxRecDepth 20000 in
theorem mo_X11_setAt : MOs m_X11_setAt 3 := ⟨⟨rfl, (inC2 (i := 193) rfl rfl), (inC1 (i := 1) rfl rfl), ⟨nh_10.1, nh_10.2, pd_38⟩, by decide +kernel⟩, (inC2 (i := 192) rfl rfl)⟩
set_option maxRecDepth 20000 in
theorem mo_X11_copyRow : MOs m_X11_copyRow 2 := ⟨⟨rfl, (inC3 (i := 112) rfl rfl), (inC1 (i := 1) rfl rfl), ⟨nh_10.1, nh_10.2, pd_39⟩, by decide +kernel⟩, (inC3 (i := 111) rfl rfl)⟩
set_option maxRecDepth 20000 in
theorem mo_X11_bit : MOs m_X11_bit 1 := ⟨⟨rfl, (inC2 (i := 149) rfl rfl), (inC1 (i := 1) rfl rfl), ⟨nh_10.1, nh_10.2, pd_12⟩, by decide +kernel⟩, (inC2 (i := 148) rfl rfl)⟩
set_option maxRecDepth 20000 in
theorem mo_X11_has : MOs m_X11_has 2 := ⟨⟨rfl, (inC2 (i := 176) rfl rfl), (inC1 (i := 1) rfl rfl), ⟨nh_10.1, nh_10.2, pd_23⟩, by decide +kernel⟩, (inC2 (i := 175) rfl rfl)⟩
set_option maxRecDepth 20000 in
theorem mo_X11_sumOver : MOs m_X11_sumOver 2 := ⟨⟨rfl, (inC3 (i := 46) rfl rfl), (inC1 (i := 1) rfl rfl), ⟨nh_10.1, nh_10.2, pd_37⟩, by decide +kernel⟩, (inC3 (i := 45) rfl rfl)⟩
set_option maxRecDepth 20000 in
set_option maxRecDepth 20000 in
theorem mo_X12_thrown : MOv m_X12_thrown 0 := ⟨⟨rfl, (inC7 (i := 28) rfl rfl), (inC1 (i := 11) rfl rfl), ⟨nh_11.1, nh_11.2, pd_19⟩, by decide +kernel⟩, (inC7 (i := 26) rfl rfl), (inC7 (i := 27) rfl rfl)⟩
theorem mo_X12_throwsIf : MOv m_X12_throwsIf 2 := ⟨⟨rfl, (inC8 (i := 39) rfl rfl), (inC1 (i := 11) rfl rfl), ⟨nh_11.1, nh_11.2, pd_40⟩, by decide +kernel⟩, (inC8 (i := 38) rfl rfl), inT2 (i := 71) rfl rfl⟩
set_option maxRecDepth 20000 in
theorem mo_X12_in : MOs m_X12_in 3 := ⟨⟨rfl, (inC8 (i := 94) rfl rfl), (inC1 (i := 11) rfl rfl), ⟨nh_11.1, nh_11.2, pd_41⟩, by decide +kernel⟩, (inC8 (i := 93) rfl rfl)⟩
set_option maxRecDepth 20000 in
theorem mo_X12_has : MOs m_X12_has 2 := ⟨⟨rfl, (inC8 (i := 125) rfl rfl), (inC1 (i := 11) rfl rfl), ⟨nh_11.1, nh_11.2, pd_23⟩, by decide +kernel⟩, (inC8 (i := 124) rfl rfl)⟩
set_option maxRecDepth 20000 in
theorem mo_X12_init : MOi m_X12_init 0 := ⟨⟨rfl, (inC7 (i := 33) rfl rfl), (inC1 (i := 11) rfl rfl), ⟨nh_11.1, nh_11.2, pd_0⟩, by decide +kernel⟩, (inC7 (i := 32) rfl rfl), rfl, rfl⟩
set_option maxRecDepth 20000 in
theorem mo_X12_image : MOv m_X12_image 0 := ⟨⟨rfl, (inC7 (i := 100) rfl rfl), (inC1 (i := 11) rfl rfl), ⟨nh_11.1, nh_11.2, pd_0⟩, by decide +kernel⟩, (inC7 (i := 98) rfl rfl), (inC7 (i := 99) rfl rfl)⟩
set_option maxRecDepth 20000 in
theorem mo_X12_back : MOv m_X12_back 0 := ⟨⟨rfl, (inC7 (i := 104) rfl rfl), (inC1 (i := 11) rfl rfl), ⟨nh_11.1, nh_11.2, pd_20⟩, by decide +kernel⟩, (inC7 (i := 102) rfl rfl), (inC7 (i := 103) rfl rfl)⟩
set_option maxRecDepth 20000 in
theorem mo_X12_remembers : MOv m_X12_remembers 0 := ⟨⟨rfl, (inC8 (i := 208) rfl rfl), (inC1 (i := 11) rfl rfl), ⟨nh_11.1, nh_11.2, pd_0⟩, by decide +kernel⟩, (inC8 (i := 207) rfl rfl), inT2 (i := 98) rfl rfl⟩
set_option maxRecDepth 20000 in
theorem mo_X12_undo : MOv m_X12_undo 0 := ⟨⟨rfl, (inC7 (i := 108) rfl rfl), (inC1 (i := 11) rfl rfl), ⟨nh_11.1, nh_11.2, pd_20⟩, by decide +kernel⟩, (inC7 (i := 106) rfl rfl), (inC7 (i := 107) rfl rfl)⟩
set_option maxRecDepth 20000 in
theorem mo_X12_people : MOv m_X12_people 0 := ⟨⟨rfl, (inC7 (i := 167) rfl rfl), (inC1 (i := 11) rfl rfl), ⟨nh_11.1, nh_11.2, pd_19⟩, by decide +kernel⟩, (inC7 (i := 166) rfl rfl), inT2 (i := 51) rfl rfl⟩
set_option maxRecDepth 20000 in
theorem mo_X12_duties : MOv m_X12_duties 0 := ⟨⟨rfl, (inC7 (i := 189) rfl rfl), (inC1 (i := 11) rfl rfl), ⟨nh_11.1, nh_11.2, pd_19⟩, by decide +kernel⟩, (inC7 (i := 188) rfl rfl), inT2 (i := 55) rfl rfl⟩
set_option maxRecDepth 20000 in
theorem mo_X12_personAt : MOs m_X12_personAt 2 := ⟨⟨rfl, (inC7 (i := 180) rfl rfl), (inC1 (i := 11) rfl rfl), ⟨nh_11.1, nh_11.2, pd_5⟩, by decide +kernel⟩, (inC7 (i := 179) rfl rfl)⟩
set_option maxRecDepth 20000 in
theorem mo_X12_ofPerson : MOv m_X12_ofPerson 2 := ⟨⟨rfl, (inC8 (i := 164) rfl rfl), (inC1 (i := 11) rfl rfl), ⟨nh_11.1, nh_11.2, pd_5⟩, by decide +kernel⟩, (inC8 (i := 163) rfl rfl), inT2 (i := 90) rfl rfl⟩
set_option maxRecDepth 20000 in
theorem mo_X12_at : MOs m_X12_at 2 := ⟨⟨rfl, (inC7 (i := 201) rfl rfl), (inC1 (i := 11) rfl rfl), ⟨nh_11.1, nh_11.2, pd_5⟩, by decide +kernel⟩, (inC7 (i := 200) rfl rfl)⟩
set_option maxRecDepth 20000 in
theorem mo_X12_of : MOv m_X12_of 2 := ⟨⟨rfl, (inC7 (i := 214) rfl rfl), (inC1 (i := 11) rfl rfl), ⟨nh_11.1, nh_11.2, pd_5⟩, by decide +kernel⟩, (inC7 (i := 213) rfl rfl), inT2 (i := 59) rfl rfl⟩
set_option maxRecDepth 20000 in
theorem mo_X12_isWaiting : MOv m_X12_isWaiting 1 := ⟨⟨rfl, (inC7 (i := 210) rfl rfl), (inC1 (i := 11) rfl rfl), ⟨nh_11.1, nh_11.2, pd_18⟩, by decide +kernel⟩, (inC7 (i := 209) rfl rfl), inT2 (i := 58) rfl rfl⟩
set_option maxRecDepth 20000 in
theorem mo_X12_isDone : MOv m_X12_isDone 1 := ⟨⟨rfl, (inC8 (i := 79) rfl rfl), (inC1 (i := 11) rfl rfl), ⟨nh_11.1, nh_11.2, pd_18⟩, by decide +kernel⟩, (inC8 (i := 78) rfl rfl), inT2 (i := 78) rfl rfl⟩
set_option maxRecDepth 20000 in
theorem mo_X12_isForgotten : MOv m_X12_isForgotten 1 := ⟨⟨rfl, (inC8 (i := 232) rfl rfl), (inC1 (i := 11) rfl rfl), ⟨nh_11.1, nh_11.2, pd_18⟩, by decide +kernel⟩, (inC8 (i := 231) rfl rfl), inT2 (i := 101) rfl rfl⟩
set_option maxRecDepth 20000 in
theorem mo_X12_noPerson : MOv m_X12_noPerson 1 := ⟨⟨rfl, (inC8 (i := 136) rfl rfl), (inC1 (i := 11) rfl rfl), ⟨nh_11.1, nh_11.2, pd_18⟩, by decide +kernel⟩, (inC8 (i := 135) rfl rfl), inT2 (i := 83) rfl rfl⟩
set_option maxRecDepth 20000 in
theorem mo_X12_noDuty : MOv m_X12_noDuty 1 := ⟨⟨rfl, (inC8 (i := 91) rfl rfl), (inC1 (i := 11) rfl rfl), ⟨nh_11.1, nh_11.2, pd_18⟩, by decide +kernel⟩, (inC8 (i := 90) rfl rfl), inT2 (i := 80) rfl rfl⟩
set_option maxRecDepth 20000 in
theorem mo_X12_noKerb : MOs m_X12_noKerb 1 := ⟨⟨rfl, (inC8 (i := 97) rfl rfl), (inC1 (i := 11) rfl rfl), ⟨nh_11.1, nh_11.2, pd_18⟩, by decide +kernel⟩, (inC8 (i := 96) rfl rfl)⟩
set_option maxRecDepth 20000 in
theorem mo_X12_drawn : MOv m_X12_drawn 1 := ⟨⟨rfl, (inC9 (i := 20) rfl rfl), (inC1 (i := 11) rfl rfl), ⟨nh_11.1, nh_11.2, pd_12⟩, by decide +kernel⟩, (inC9 (i := 19) rfl rfl), inT2 (i := 104) rfl rfl⟩
set_option maxRecDepth 20000 in
theorem mo_X12_feed : MOv m_X12_feed 5 := ⟨⟨rfl, (inC7 (i := 112) rfl rfl), (inC1 (i := 11) rfl rfl), ⟨nh_11.1, nh_11.2, pd_33⟩, by decide +kernel⟩, (inC7 (i := 110) rfl rfl), (inC7 (i := 111) rfl rfl)⟩
set_option maxRecDepth 20000 in
theorem mo_X12_end : MOv m_X12_end 1 := ⟨⟨rfl, (inC7 (i := 116) rfl rfl), (inC1 (i := 11) rfl rfl), ⟨nh_11.1, nh_11.2, pd_18⟩, by decide +kernel⟩, (inC7 (i := 114) rfl rfl), (inC7 (i := 115) rfl rfl)⟩
set_option maxRecDepth 20000 in
theorem mo_X12_isAt : MOv m_X12_isAt 2 := ⟨⟨rfl, (inC7 (i := 140) rfl rfl), (inC1 (i := 11) rfl rfl), ⟨nh_11.1, nh_11.2, pd_23⟩, by decide +kernel⟩, (inC7 (i := 139) rfl rfl), inT2 (i := 45) rfl rfl⟩
set_option maxRecDepth 20000 in
theorem mo_X12_blanks : MOv m_X12_blanks 0 := ⟨⟨rfl, (inC7 (i := 136) rfl rfl), (inC1 (i := 11) rfl rfl), ⟨nh_11.1, nh_11.2, pd_0⟩, by decide +kernel⟩, (inC7 (i := 135) rfl rfl), inT2 (i := 44) rfl rfl⟩
set_option maxRecDepth 20000 in
theorem mo_X12_letters : MOv m_X12_letters 0 := ⟨⟨rfl, (inC7 (i := 148) rfl rfl), (inC1 (i := 11) rfl rfl), ⟨nh_11.1, nh_11.2, pd_0⟩, by decide +kernel⟩, (inC7 (i := 147) rfl rfl), inT2 (i := 47) rfl rfl⟩
set_option maxRecDepth 20000 in
theorem mo_X12_isWord : MOv m_X12_isWord 1 := ⟨⟨rfl, (inC7 (i := 157) rfl rfl), (inC1 (i := 11) rfl rfl), ⟨nh_11.1, nh_11.2, pd_42⟩, by decide +kernel⟩, (inC7 (i := 156) rfl rfl), inT2 (i := 49) rfl rfl⟩
set_option maxRecDepth 20000 in
theorem mo_X12_passes : MOv m_X12_passes 1 := ⟨⟨rfl, (inC7 (i := 196) rfl rfl), (inC1 (i := 11) rfl rfl), ⟨nh_11.1, nh_11.2, pd_42⟩, by decide +kernel⟩, (inC7 (i := 195) rfl rfl), inT2 (i := 56) rfl rfl⟩
set_option maxRecDepth 20000 in
theorem mo_X12_sign : MOv m_X12_sign 1 := ⟨⟨rfl, (inC8 (i := 7) rfl rfl), (inC1 (i := 11) rfl rfl), ⟨nh_11.1, nh_11.2, pd_18⟩, by decide +kernel⟩, (inC8 (i := 6) rfl rfl), inT2 (i := 65) rfl rfl⟩
set_option maxRecDepth 20000 in
theorem mo_X12_number : MOv m_X12_number 2 := ⟨⟨rfl, (inC7 (i := 176) rfl rfl), (inC1 (i := 11) rfl rfl), ⟨nh_11.1, nh_11.2, pd_5⟩, by decide +kernel⟩, (inC7 (i := 175) rfl rfl), inT2 (i := 53) rfl rfl⟩
set_option maxRecDepth 20000 in
theorem mo_X12_numberBehind : MOv m_X12_numberBehind 3 := ⟨⟨rfl, (inC7 (i := 172) rfl rfl), (inC1 (i := 11) rfl rfl), ⟨nh_11.1, nh_11.2, pd_43⟩, by decide +kernel⟩, (inC7 (i := 171) rfl rfl), inT2 (i := 52) rfl rfl⟩
set_option maxRecDepth 20000 in
theorem mo_X12_fault : MOv m_X12_fault 0 := ⟨⟨rfl, (inC7 (i := 120) rfl rfl), (inC1 (i := 11) rfl rfl), ⟨nh_11.1, nh_11.2, pd_19⟩, by decide +kernel⟩, (inC7 (i := 118) rfl rfl), (inC7 (i := 119) rfl rfl)⟩
set_option maxRecDepth 20000 in
theorem mo_X12_uses : MOv m_X12_uses 0 := ⟨⟨rfl, (inC7 (i := 132) rfl rfl), (inC1 (i := 11) rfl rfl), ⟨nh_11.1, nh_11.2, pd_0⟩, by decide +kernel⟩, (inC7 (i := 131) rfl rfl), inT2 (i := 43) rfl rfl⟩
set_option maxRecDepth 20000 in
theorem mo_X12_readNumber : MOv m_X12_readNumber 3 := ⟨⟨rfl, (inC7 (i := 219) rfl rfl), (inC1 (i := 11) rfl rfl), ⟨nh_11.1, nh_11.2, pd_41⟩, by decide +kernel⟩, (inC7 (i := 218) rfl rfl), inT2 (i := 60) rfl rfl⟩
set_option maxRecDepth 20000 in
theorem mo_X12_readPerson : MOv m_X12_readPerson 0 := ⟨⟨rfl, (inC7 (i := 163) rfl rfl), (inC1 (i := 11) rfl rfl), ⟨nh_11.1, nh_11.2, pd_20⟩, by decide +kernel⟩, (inC7 (i := 162) rfl rfl), inT2 (i := 50) rfl rfl⟩
set_option maxRecDepth 20000 in
theorem mo_X12_readDuty : MOv m_X12_readDuty 0 := ⟨⟨rfl, (inC7 (i := 185) rfl rfl), (inC1 (i := 11) rfl rfl), ⟨nh_11.1, nh_11.2, pd_20⟩, by decide +kernel⟩, (inC7 (i := 184) rfl rfl), inT2 (i := 54) rfl rfl⟩
set_option maxRecDepth 20000 in
theorem mo_X12_readForgotten : MOv m_X12_readForgotten 0 := ⟨⟨rfl, (inC7 (i := 206) rfl rfl), (inC1 (i := 11) rfl rfl), ⟨nh_11.1, nh_11.2, pd_20⟩, by decide +kernel⟩, (inC7 (i := 205) rfl rfl), inT2 (i := 57) rfl rfl⟩
set_option maxRecDepth 20000 in
theorem mo_X12_readStreetLine : MOv m_X12_readStreetLine 0 := ⟨⟨rfl, (inC7 (i := 152) rfl rfl), (inC1 (i := 11) rfl rfl), ⟨nh_11.1, nh_11.2, pd_20⟩, by decide +kernel⟩, (inC7 (i := 151) rfl rfl), inT2 (i := 48) rfl rfl⟩
set_option maxRecDepth 20000 in
theorem mo_X12_emits : MOv m_X12_emits 2 := ⟨⟨rfl, (inC8 (i := 12) rfl rfl), (inC1 (i := 11) rfl rfl), ⟨nh_11.1, nh_11.2, pd_14⟩, by decide +kernel⟩, (inC8 (i := 11) rfl rfl), inT2 (i := 66) rfl rfl⟩
set_option maxRecDepth 20000 in
theorem mo_X12_wordOfPart : MOv m_X12_wordOfPart 0 := ⟨⟨rfl, (inC8 (i := 30) rfl rfl), (inC1 (i := 11) rfl rfl), ⟨nh_11.1, nh_11.2, pd_19⟩, by decide +kernel⟩, (inC8 (i := 29) rfl rfl), inT2 (i := 70) rfl rfl⟩
set_option maxRecDepth 20000 in
theorem mo_X12_readPart : MOv m_X12_readPart 0 := ⟨⟨rfl, (inC8 (i := 26) rfl rfl), (inC1 (i := 11) rfl rfl), ⟨nh_11.1, nh_11.2, pd_20⟩, by decide +kernel⟩, (inC8 (i := 25) rfl rfl), inT2 (i := 69) rfl rfl⟩
set_option maxRecDepth 20000 in
theorem mo_X12_readSum : MOv m_X12_readSum 0 := ⟨⟨rfl, (inC8 (i := 22) rfl rfl), (inC1 (i := 11) rfl rfl), ⟨nh_11.1, nh_11.2, pd_20⟩, by decide +kernel⟩, (inC8 (i := 21) rfl rfl), inT2 (i := 68) rfl rfl⟩
set_option maxRecDepth 20000 in
theorem mo_X12_readTag : MOv m_X12_readTag 0 := ⟨⟨rfl, (inC8 (i := 16) rfl rfl), (inC1 (i := 11) rfl rfl), ⟨nh_11.1, nh_11.2, pd_20⟩, by decide +kernel⟩, (inC8 (i := 15) rfl rfl), inT2 (i := 67) rfl rfl⟩
set_option maxRecDepth 20000 in
theorem mo_X12_readAtom : MOv m_X12_readAtom 0 := ⟨⟨rfl, (inC8 (i := 3) rfl rfl), (inC1 (i := 11) rfl rfl), ⟨nh_11.1, nh_11.2, pd_20⟩, by decide +kernel⟩, (inC8 (i := 2) rfl rfl), inT2 (i := 64) rfl rfl⟩
set_option maxRecDepth 20000 in
theorem mo_X12_readAllOf : MOv m_X12_readAllOf 0 := ⟨⟨rfl, (inC7 (i := 239) rfl rfl), (inC1 (i := 11) rfl rfl), ⟨nh_11.1, nh_11.2, pd_20⟩, by decide +kernel⟩, (inC7 (i := 238) rfl rfl), inT2 (i := 63) rfl rfl⟩
set_option maxRecDepth 20000 in
theorem mo_X12_readCond : MOv m_X12_readCond 0 := ⟨⟨rfl, (inC7 (i := 235) rfl rfl), (inC1 (i := 11) rfl rfl), ⟨nh_11.1, nh_11.2, pd_20⟩, by decide +kernel⟩, (inC7 (i := 234) rfl rfl), inT2 (i := 62) rfl rfl⟩
set_option maxRecDepth 20000 in
theorem mo_X12_readLawLine : MOv m_X12_readLawLine 1 := ⟨⟨rfl, (inC7 (i := 227) rfl rfl), (inC1 (i := 11) rfl rfl), ⟨nh_11.1, nh_11.2, pd_18⟩, by decide +kernel⟩, (inC7 (i := 226) rfl rfl), inT2 (i := 61) rfl rfl⟩
set_option maxRecDepth 20000 in
theorem mo_X12_readLine : MOv m_X12_readLine 2 := ⟨⟨rfl, (inC7 (i := 144) rfl rfl), (inC1 (i := 11) rfl rfl), ⟨nh_11.1, nh_11.2, pd_40⟩, by decide +kernel⟩, (inC7 (i := 143) rfl rfl), inT2 (i := 46) rfl rfl⟩
set_option maxRecDepth 20000 in
theorem mo_X12_readAll : MOv m_X12_readAll 1 := ⟨⟨rfl, (inC7 (i := 128) rfl rfl), (inC1 (i := 11) rfl rfl), ⟨nh_11.1, nh_11.2, pd_44⟩, by decide +kernel⟩, (inC7 (i := 127) rfl rfl), inT2 (i := 42) rfl rfl⟩
set_option maxRecDepth 20000 in
theorem mo_X12_street : MOv m_X12_street 0 := ⟨⟨rfl, (inC7 (i := 124) rfl rfl), (inC1 (i := 11) rfl rfl), ⟨nh_11.1, nh_11.2, pd_19⟩, by decide +kernel⟩, (inC7 (i := 122) rfl rfl), (inC7 (i := 123) rfl rfl)⟩
set_option maxRecDepth 20000 in
theorem mo_X12_law : MOv m_X12_law 0 := ⟨⟨rfl, (inC8 (i := 43) rfl rfl), (inC1 (i := 11) rfl rfl), ⟨nh_11.1, nh_11.2, pd_19⟩, by decide +kernel⟩, (inC8 (i := 41) rfl rfl), (inC8 (i := 42) rfl rfl)⟩
set_option maxRecDepth 20000 in
theorem mo_X12_leansWell : MOv m_X12_leansWell 1 := ⟨⟨rfl, (inC8 (i := 75) rfl rfl), (inC1 (i := 11) rfl rfl), ⟨nh_11.1, nh_11.2, pd_18⟩, by decide +kernel⟩, (inC8 (i := 74) rfl rfl), inT2 (i := 77) rfl rfl⟩
set_option maxRecDepth 20000 in
theorem mo_X12_isReady : MOv m_X12_isReady 1 := ⟨⟨rfl, (inC8 (i := 71) rfl rfl), (inC1 (i := 11) rfl rfl), ⟨nh_11.1, nh_11.2, pd_18⟩, by decide +kernel⟩, (inC8 (i := 70) rfl rfl), inT2 (i := 76) rfl rfl⟩
set_option maxRecDepth 20000 in
theorem mo_X12_factOf : MOv m_X12_factOf 3 := ⟨⟨rfl, (inC8 (i := 191) rfl rfl), (inC1 (i := 11) rfl rfl), ⟨nh_11.1, nh_11.2, pd_8⟩, by decide +kernel⟩, (inC8 (i := 190) rfl rfl), inT2 (i := 96) rfl rfl⟩
set_option maxRecDepth 20000 in
theorem mo_X12_holdsLine : MOv m_X12_holdsLine 2 := ⟨⟨rfl, (inC8 (i := 187) rfl rfl), (inC1 (i := 11) rfl rfl), ⟨nh_11.1, nh_11.2, pd_23⟩, by decide +kernel⟩, (inC8 (i := 186) rfl rfl), inT2 (i := 95) rfl rfl⟩
set_option maxRecDepth 20000 in
theorem mo_X12_sumOf : MOv m_X12_sumOf 2 := ⟨⟨rfl, (inC8 (i := 183) rfl rfl), (inC1 (i := 11) rfl rfl), ⟨nh_11.1, nh_11.2, pd_5⟩, by decide +kernel⟩, (inC8 (i := 182) rfl rfl), inT2 (i := 94) rfl rfl⟩
set_option maxRecDepth 20000 in
theorem mo_X12_growsBy : MOv m_X12_growsBy 1 := ⟨⟨rfl, (inC8 (i := 200) rfl rfl), (inC1 (i := 11) rfl rfl), ⟨nh_11.1, nh_11.2, pd_12⟩, by decide +kernel⟩, (inC8 (i := 199) rfl rfl), inT2 (i := 97) rfl rfl⟩
set_option maxRecDepth 20000 in
theorem mo_X12_shamesBy : MOv m_X12_shamesBy 1 := ⟨⟨rfl, (inC8 (i := 179) rfl rfl), (inC1 (i := 11) rfl rfl), ⟨nh_11.1, nh_11.2, pd_12⟩, by decide +kernel⟩, (inC8 (i := 178) rfl rfl), inT2 (i := 93) rfl rfl⟩
set_option maxRecDepth 20000 in
theorem mo_X12_ofState : MOv m_X12_ofState 1 := ⟨⟨rfl, (inC8 (i := 152) rfl rfl), (inC1 (i := 11) rfl rfl), ⟨nh_11.1, nh_11.2, pd_12⟩, by decide +kernel⟩, (inC8 (i := 151) rfl rfl), inT2 (i := 87) rfl rfl⟩
set_option maxRecDepth 20000 in
theorem mo_X12_goesAhead : MOv m_X12_goesAhead 2 := ⟨⟨rfl, (inC8 (i := 55) rfl rfl), (inC1 (i := 11) rfl rfl), ⟨nh_11.1, nh_11.2, pd_23⟩, by decide +kernel⟩, (inC8 (i := 54) rfl rfl), inT2 (i := 73) rfl rfl⟩
set_option maxRecDepth 20000 in
theorem mo_X12_placeOf : MOv m_X12_placeOf 1 := ⟨⟨rfl, (inC8 (i := 51) rfl rfl), (inC1 (i := 11) rfl rfl), ⟨nh_11.1, nh_11.2, pd_12⟩, by decide +kernel⟩, (inC8 (i := 50) rfl rfl), inT2 (i := 72) rfl rfl⟩
set_option maxRecDepth 20000 in
theorem mo_X12_passesBy : MOv m_X12_passesBy 1 := ⟨⟨rfl, (inC8 (i := 83) rfl rfl), (inC1 (i := 11) rfl rfl), ⟨nh_11.1, nh_11.2, pd_12⟩, by decide +kernel⟩, (inC8 (i := 82) rfl rfl), inT2 (i := 79) rfl rfl⟩
set_option maxRecDepth 20000 in
theorem mo_X12_canBeCalled : MOv m_X12_canBeCalled 1 := ⟨⟨rfl, (inC8 (i := 67) rfl rfl), (inC1 (i := 11) rfl rfl), ⟨nh_11.1, nh_11.2, pd_18⟩, by decide +kernel⟩, (inC8 (i := 66) rfl rfl), inT2 (i := 75) rfl rfl⟩
set_option maxRecDepth 20000 in
theorem mo_X12_canOnes : MOv m_X12_canOnes 0 := ⟨⟨rfl, (inC8 (i := 63) rfl rfl), (inC1 (i := 11) rfl rfl), ⟨nh_11.1, nh_11.2, pd_19⟩, by decide +kernel⟩, (inC8 (i := 62) rfl rfl), inT2 (i := 74) rfl rfl⟩
set_option maxRecDepth 20000 in
theorem mo_X12_parade : MOv m_X12_parade 1 := ⟨⟨rfl, (inC8 (i := 47) rfl rfl), (inC1 (i := 11) rfl rfl), ⟨nh_11.1, nh_11.2, pd_12⟩, by decide +kernel⟩, (inC8 (i := 45) rfl rfl), (inC8 (i := 46) rfl rfl)⟩
set_option maxRecDepth 20000 in
theorem mo_X12_can : MOv m_X12_can 0 := ⟨⟨rfl, (inC8 (i := 59) rfl rfl), (inC1 (i := 11) rfl rfl), ⟨nh_11.1, nh_11.2, pd_19⟩, by decide +kernel⟩, (inC8 (i := 57) rfl rfl), (inC8 (i := 58) rfl rfl)⟩
set_option maxRecDepth 20000 in
theorem mo_X12_greets : MOv m_X12_greets 2 := ⟨⟨rfl, (inC8 (i := 87) rfl rfl), (inC1 (i := 11) rfl rfl), ⟨nh_11.1, nh_11.2, pd_5⟩, by decide +kernel⟩, (inC8 (i := 85) rfl rfl), (inC8 (i := 86) rfl rfl)⟩
set_option maxRecDepth 20000 in
theorem mo_X12_whereAt : MOv m_X12_whereAt 2 := ⟨⟨rfl, (inC8 (i := 108) rfl rfl), (inC1 (i := 11) rfl rfl), ⟨nh_11.1, nh_11.2, pd_5⟩, by decide +kernel⟩, (inC8 (i := 107) rfl rfl), inT2 (i := 81) rfl rfl⟩
set_option maxRecDepth 20000 in
theorem mo_X12_noHour : MOs m_X12_noHour 1 := ⟨⟨rfl, (inC8 (i := 104) rfl rfl), (inC1 (i := 11) rfl rfl), ⟨nh_11.1, nh_11.2, pd_18⟩, by decide +kernel⟩, (inC8 (i := 103) rfl rfl)⟩
set_option maxRecDepth 20000 in
theorem mo_X12_where : MOv m_X12_where 2 := ⟨⟨rfl, (inC8 (i := 101) rfl rfl), (inC1 (i := 11) rfl rfl), ⟨nh_11.1, nh_11.2, pd_5⟩, by decide +kernel⟩, (inC8 (i := 99) rfl rfl), (inC8 (i := 100) rfl rfl)⟩
set_option maxRecDepth 20000 in
theorem mo_X12_crowd : MOv m_X12_crowd 3 := ⟨⟨rfl, (inC8 (i := 113) rfl rfl), (inC1 (i := 11) rfl rfl), ⟨nh_11.1, nh_11.2, pd_8⟩, by decide +kernel⟩, (inC8 (i := 111) rfl rfl), (inC8 (i := 112) rfl rfl)⟩
set_option maxRecDepth 20000 in
theorem mo_X12_canAll : MOv m_X12_canAll 1 := ⟨⟨rfl, (inC8 (i := 122) rfl rfl), (inC1 (i := 11) rfl rfl), ⟨nh_11.1, nh_11.2, pd_18⟩, by decide +kernel⟩, (inC8 (i := 121) rfl rfl), inT2 (i := 82) rfl rfl⟩
set_option maxRecDepth 20000 in
theorem mo_X12_most : MOv m_X12_most 0 := ⟨⟨rfl, (inC8 (i := 117) rfl rfl), (inC1 (i := 11) rfl rfl), ⟨nh_11.1, nh_11.2, pd_19⟩, by decide +kernel⟩, (inC8 (i := 115) rfl rfl), (inC8 (i := 116) rfl rfl)⟩
set_option maxRecDepth 20000 in
theorem mo_X12_ownedBy : MOv m_X12_ownedBy 1 := ⟨⟨rfl, (inC8 (i := 140) rfl rfl), (inC1 (i := 11) rfl rfl), ⟨nh_11.1, nh_11.2, pd_12⟩, by decide +kernel⟩, (inC8 (i := 139) rfl rfl), inT2 (i := 84) rfl rfl⟩
set_option maxRecDepth 20000 in
theorem mo_X12_hoursOf : MOv m_X12_hoursOf 1 := ⟨⟨rfl, (inC8 (i := 156) rfl rfl), (inC1 (i := 11) rfl rfl), ⟨nh_11.1, nh_11.2, pd_12⟩, by decide +kernel⟩, (inC8 (i := 155) rfl rfl), inT2 (i := 88) rfl rfl⟩
set_option maxRecDepth 20000 in
theorem mo_X12_shameOf : MOv m_X12_shameOf 1 := ⟨⟨rfl, (inC8 (i := 175) rfl rfl), (inC1 (i := 11) rfl rfl), ⟨nh_11.1, nh_11.2, pd_12⟩, by decide +kernel⟩, (inC8 (i := 174) rfl rfl), inT2 (i := 92) rfl rfl⟩
set_option maxRecDepth 20000 in
theorem mo_X12_waitingOf : MOv m_X12_waitingOf 1 := ⟨⟨rfl, (inC8 (i := 148) rfl rfl), (inC1 (i := 11) rfl rfl), ⟨nh_11.1, nh_11.2, pd_12⟩, by decide +kernel⟩, (inC8 (i := 147) rfl rfl), inT2 (i := 86) rfl rfl⟩
set_option maxRecDepth 20000 in
theorem mo_X12_loadOf : MOv m_X12_loadOf 1 := ⟨⟨rfl, (inC8 (i := 144) rfl rfl), (inC1 (i := 11) rfl rfl), ⟨nh_11.1, nh_11.2, pd_12⟩, by decide +kernel⟩, (inC8 (i := 143) rfl rfl), inT2 (i := 85) rfl rfl⟩
set_option maxRecDepth 20000 in
theorem mo_X12_daysFor : MOs m_X12_daysFor 2 := ⟨⟨rfl, (inC8 (i := 167) rfl rfl), (inC1 (i := 11) rfl rfl), ⟨nh_11.1, nh_11.2, pd_5⟩, by decide +kernel⟩, (inC8 (i := 166) rfl rfl)⟩
set_option maxRecDepth 20000 in
theorem mo_X12_needsOf : MOv m_X12_needsOf 1 := ⟨⟨rfl, (inC8 (i := 160) rfl rfl), (inC1 (i := 11) rfl rfl), ⟨nh_11.1, nh_11.2, pd_12⟩, by decide +kernel⟩, (inC8 (i := 159) rfl rfl), inT2 (i := 89) rfl rfl⟩
set_option maxRecDepth 20000 in
theorem mo_X12_shareOf : MOv m_X12_shareOf 1 := ⟨⟨rfl, (inC8 (i := 171) rfl rfl), (inC1 (i := 11) rfl rfl), ⟨nh_11.1, nh_11.2, pd_12⟩, by decide +kernel⟩, (inC8 (i := 170) rfl rfl), inT2 (i := 91) rfl rfl⟩
set_option maxRecDepth 20000 in
theorem mo_X12_person : MOv m_X12_person 2 := ⟨⟨rfl, (inC8 (i := 132) rfl rfl), (inC1 (i := 11) rfl rfl), ⟨nh_11.1, nh_11.2, pd_5⟩, by decide +kernel⟩, (inC8 (i := 130) rfl rfl), (inC8 (i := 131) rfl rfl)⟩
set_option maxRecDepth 20000 in
theorem mo_X12_duty : MOv m_X12_duty 2 := ⟨⟨rfl, (inC8 (i := 196) rfl rfl), (inC1 (i := 11) rfl rfl), ⟨nh_11.1, nh_11.2, pd_5⟩, by decide +kernel⟩, (inC8 (i := 194) rfl rfl), (inC8 (i := 195) rfl rfl)⟩
set_option maxRecDepth 20000 in
theorem mo_X12_isNow : MOv m_X12_isNow 2 := ⟨⟨rfl, (inC8 (i := 216) rfl rfl), (inC1 (i := 11) rfl rfl), ⟨nh_11.1, nh_11.2, pd_14⟩, by decide +kernel⟩, (inC8 (i := 215) rfl rfl), inT2 (i := 100) rfl rfl⟩
set_option maxRecDepth 20000 in
theorem mo_X12_finishes : MOv m_X12_finishes 1 := ⟨⟨rfl, (inC8 (i := 212) rfl rfl), (inC1 (i := 11) rfl rfl), ⟨nh_11.1, nh_11.2, pd_15⟩, by decide +kernel⟩, (inC8 (i := 211) rfl rfl), inT2 (i := 99) rfl rfl⟩
set_option maxRecDepth 20000 in
theorem mo_X12_call : MOv m_X12_call 1 := ⟨⟨rfl, (inC8 (i := 204) rfl rfl), (inC1 (i := 11) rfl rfl), ⟨nh_11.1, nh_11.2, pd_12⟩, by decide +kernel⟩, (inC8 (i := 202) rfl rfl), (inC8 (i := 203) rfl rfl)⟩
set_option maxRecDepth 20000 in
theorem mo_X12_put : MOv m_X12_put 1 := ⟨⟨rfl, (inC8 (i := 220) rfl rfl), (inC1 (i := 11) rfl rfl), ⟨nh_11.1, nh_11.2, pd_12⟩, by decide +kernel⟩, (inC8 (i := 218) rfl rfl), (inC8 (i := 219) rfl rfl)⟩
set_option maxRecDepth 20000 in
theorem mo_X12_forget : MOv m_X12_forget 1 := ⟨⟨rfl, (inC8 (i := 224) rfl rfl), (inC1 (i := 11) rfl rfl), ⟨nh_11.1, nh_11.2, pd_12⟩, by decide +kernel⟩, (inC8 (i := 222) rfl rfl), (inC8 (i := 223) rfl rfl)⟩
set_option maxRecDepth 20000 in
theorem mo_X12_recall : MOv m_X12_recall 1 := ⟨⟨rfl, (inC8 (i := 228) rfl rfl), (inC1 (i := 11) rfl rfl), ⟨nh_11.1, nh_11.2, pd_12⟩, by decide +kernel⟩, (inC8 (i := 226) rfl rfl), (inC8 (i := 227) rfl rfl)⟩
set_option maxRecDepth 20000 in
theorem mo_X12_hand : MOv m_X12_hand 2 := ⟨⟨rfl, (inC8 (i := 236) rfl rfl), (inC1 (i := 11) rfl rfl), ⟨nh_11.1, nh_11.2, pd_5⟩, by decide +kernel⟩, (inC8 (i := 234) rfl rfl), (inC8 (i := 235) rfl rfl)⟩
set_option maxRecDepth 20000 in
theorem mo_X12_lean : MOv m_X12_lean 2 := ⟨⟨rfl, (inC9 (i := 0) rfl rfl), (inC1 (i := 11) rfl rfl), ⟨nh_11.1, nh_11.2, pd_5⟩, by decide +kernel⟩, (inC8 (i := 238) rfl rfl), (inC8 (i := 239) rfl rfl)⟩
set_option maxRecDepth 20000 in
theorem mo_X12_free : MOv m_X12_free 2 := ⟨⟨rfl, (inC9 (i := 4) rfl rfl), (inC1 (i := 11) rfl rfl), ⟨nh_11.1, nh_11.2, pd_5⟩, by decide +kernel⟩, (inC9 (i := 2) rfl rfl), (inC9 (i := 3) rfl rfl)⟩
set_option maxRecDepth 20000 in
theorem mo_X12_hasTool : MOv m_X12_hasTool 2 := ⟨⟨rfl, (inC9 (i := 29) rfl rfl), (inC1 (i := 11) rfl rfl), ⟨nh_11.1, nh_11.2, pd_23⟩, by decide +kernel⟩, (inC9 (i := 28) rfl rfl), inT2 (i := 106) rfl rfl⟩
set_option maxRecDepth 20000 in
theorem mo_X12_works : MOv m_X12_works 1 := ⟨⟨rfl, (inC9 (i := 25) rfl rfl), (inC1 (i := 11) rfl rfl), ⟨nh_11.1, nh_11.2, pd_12⟩, by decide +kernel⟩, (inC9 (i := 24) rfl rfl), inT2 (i := 105) rfl rfl⟩
set_option maxRecDepth 20000 in
theorem mo_X12_growsOlder : MOv m_X12_growsOlder 1 := ⟨⟨rfl, (inC9 (i := 33) rfl rfl), (inC1 (i := 11) rfl rfl), ⟨nh_11.1, nh_11.2, pd_15⟩, by decide +kernel⟩, (inC9 (i := 32) rfl rfl), inT2 (i := 107) rfl rfl⟩
set_option maxRecDepth 20000 in
theorem mo_X12_tells : MOv m_X12_tells 2 := ⟨⟨rfl, (inC9 (i := 41) rfl rfl), (inC1 (i := 11) rfl rfl), ⟨nh_11.1, nh_11.2, pd_14⟩, by decide +kernel⟩, (inC9 (i := 40) rfl rfl), inT2 (i := 109) rfl rfl⟩
set_option maxRecDepth 20000 in
theorem mo_X12_goesBy : MOv m_X12_goesBy 0 := ⟨⟨rfl, (inC9 (i := 37) rfl rfl), (inC1 (i := 11) rfl rfl), ⟨nh_11.1, nh_11.2, pd_0⟩, by decide +kernel⟩, (inC9 (i := 36) rfl rfl), inT2 (i := 108) rfl rfl⟩
set_option maxRecDepth 20000 in
theorem mo_X12_oneDay : MOv m_X12_oneDay 1 := ⟨⟨rfl, (inC9 (i := 16) rfl rfl), (inC1 (i := 11) rfl rfl), ⟨nh_11.1, nh_11.2, pd_44⟩, by decide +kernel⟩, (inC9 (i := 15) rfl rfl), inT2 (i := 103) rfl rfl⟩
set_option maxRecDepth 20000 in
theorem mo_X12_goesOn : MOv m_X12_goesOn 2 := ⟨⟨rfl, (inC9 (i := 12) rfl rfl), (inC1 (i := 11) rfl rfl), ⟨nh_11.1, nh_11.2, pd_34⟩, by decide +kernel⟩, (inC9 (i := 11) rfl rfl), inT2 (i := 102) rfl rfl⟩
set_option maxRecDepth 20000 in
theorem mo_X12_keepsAll : MOv m_X12_keepsAll 0 := ⟨⟨rfl, (inC9 (i := 52) rfl rfl), (inC1 (i := 11) rfl rfl), ⟨nh_11.1, nh_11.2, pd_0⟩, by decide +kernel⟩, (inC9 (i := 51) rfl rfl), inT2 (i := 110) rfl rfl⟩
set_option maxRecDepth 20000 in
theorem mo_X12_bringsBack : MOv m_X12_bringsBack 0 := ⟨⟨rfl, (inC9 (i := 56) rfl rfl), (inC1 (i := 11) rfl rfl), ⟨nh_11.1, nh_11.2, pd_0⟩, by decide +kernel⟩, (inC9 (i := 55) rfl rfl), inT2 (i := 111) rfl rfl⟩
set_option maxRecDepth 20000 in
theorem mo_X12_days : MOv m_X12_days 1 := ⟨⟨rfl, (inC9 (i := 8) rfl rfl), (inC1 (i := 11) rfl rfl), ⟨nh_11.1, nh_11.2, pd_12⟩, by decide +kernel⟩, (inC9 (i := 6) rfl rfl), (inC9 (i := 7) rfl rfl)⟩
set_option maxRecDepth 20000 in
theorem mo_X12_noDays : MOs m_X12_noDays 1 := ⟨⟨rfl, (inC9 (i := 48) rfl rfl), (inC1 (i := 11) rfl rfl), ⟨nh_11.1, nh_11.2, pd_18⟩, by decide +kernel⟩, (inC9 (i := 47) rfl rfl)⟩
set_option maxRecDepth 20000 in
theorem mo_X12_ahead : MOv m_X12_ahead 3 := ⟨⟨rfl, (inC9 (i := 45) rfl rfl), (inC1 (i := 11) rfl rfl), ⟨nh_11.1, nh_11.2, pd_8⟩, by decide +kernel⟩, (inC9 (i := 43) rfl rfl), (inC9 (i := 44) rfl rfl)⟩
set_option maxRecDepth 20000 in
theorem mo_X12_overIn : MOv m_X12_overIn 2 := ⟨⟨rfl, (inC9 (i := 64) rfl rfl), (inC1 (i := 11) rfl rfl), ⟨nh_11.1, nh_11.2, pd_34⟩, by decide +kernel⟩, (inC9 (i := 63) rfl rfl), inT2 (i := 112) rfl rfl⟩
set_option maxRecDepth 20000 in
theorem mo_X12_allDuties : MOv m_X12_allDuties 0 := ⟨⟨rfl, (inC9 (i := 80) rfl rfl), (inC1 (i := 11) rfl rfl), ⟨nh_11.1, nh_11.2, pd_19⟩, by decide +kernel⟩, (inC9 (i := 79) rfl rfl), inT2 (i := 114) rfl rfl⟩
set_option maxRecDepth 20000 in
theorem mo_X12_allOver : MOv m_X12_allOver 0 := ⟨⟨rfl, (inC9 (i := 76) rfl rfl), (inC1 (i := 11) rfl rfl), ⟨nh_11.1, nh_11.2, pd_19⟩, by decide +kernel⟩, (inC9 (i := 75) rfl rfl), inT2 (i := 113) rfl rfl⟩
set_option maxRecDepth 20000 in
theorem mo_X12_orNone : MOs m_X12_orNone 1 := ⟨⟨rfl, (inC9 (i := 68) rfl rfl), (inC1 (i := 11) rfl rfl), ⟨nh_11.1, nh_11.2, pd_12⟩, by decide +kernel⟩, (inC9 (i := 67) rfl rfl)⟩
set_option maxRecDepth 20000 in
theorem mo_X12_done : MOv m_X12_done 1 := ⟨⟨rfl, (inC9 (i := 60) rfl rfl), (inC1 (i := 11) rfl rfl), ⟨nh_11.1, nh_11.2, pd_12⟩, by decide +kernel⟩, (inC9 (i := 58) rfl rfl), (inC9 (i := 59) rfl rfl)⟩
set_option maxRecDepth 20000 in
theorem mo_X12_all : MOv m_X12_all 0 := ⟨⟨rfl, (inC9 (i := 72) rfl rfl), (inC1 (i := 11) rfl rfl), ⟨nh_11.1, nh_11.2, pd_19⟩, by decide +kernel⟩, (inC9 (i := 70) rfl rfl), (inC9 (i := 71) rfl rfl)⟩
set_option maxRecDepth 20000 in
theorem mo_X12_overWith : MOv m_X12_overWith 2 := ⟨⟨rfl, (inC9 (i := 88) rfl rfl), (inC1 (i := 11) rfl rfl), ⟨nh_11.1, nh_11.2, pd_5⟩, by decide +kernel⟩, (inC9 (i := 87) rfl rfl), inT2 (i := 115) rfl rfl⟩
set_option maxRecDepth 20000 in
theorem mo_X12_help : MOv m_X12_help 0 := ⟨⟨rfl, (inC9 (i := 84) rfl rfl), (inC1 (i := 11) rfl rfl), ⟨nh_11.1, nh_11.2, pd_19⟩, by decide +kernel⟩, (inC9 (i := 82) rfl rfl), (inC9 (i := 83) rfl rfl)⟩
set_option maxRecDepth 20000 in
theorem mo_X12_crux : MOv m_X12_crux 0 := ⟨⟨rfl, (inC9 (i := 92) rfl rfl), (inC1 (i := 11) rfl rfl), ⟨nh_11.1, nh_11.2, pd_19⟩, by decide +kernel⟩, (inC9 (i := 90) rfl rfl), (inC9 (i := 91) rfl rfl)⟩
set_option maxRecDepth 20000 in
theorem mo_X12_sick : MOv m_X12_sick 1 := ⟨⟨rfl, (inC9 (i := 96) rfl rfl), (inC1 (i := 11) rfl rfl), ⟨nh_11.1, nh_11.2, pd_12⟩, by decide +kernel⟩, (inC9 (i := 94) rfl rfl), (inC9 (i := 95) rfl rfl)⟩
set_option maxRecDepth 20000 in
theorem mo_X12_beforeOf : MOv m_X12_beforeOf 1 := ⟨⟨rfl, (inC9 (i := 108) rfl rfl), (inC1 (i := 11) rfl rfl), ⟨nh_11.1, nh_11.2, pd_12⟩, by decide +kernel⟩, (inC9 (i := 107) rfl rfl), inT2 (i := 117) rfl rfl⟩
set_option maxRecDepth 20000 in
theorem mo_X12_ringOnes : MOv m_X12_ringOnes 0 := ⟨⟨rfl, (inC9 (i := 104) rfl rfl), (inC1 (i := 11) rfl rfl), ⟨nh_11.1, nh_11.2, pd_19⟩, by decide +kernel⟩, (inC9 (i := 103) rfl rfl), inT2 (i := 116) rfl rfl⟩
set_option maxRecDepth 20000 in
theorem mo_X12_ring : MOv m_X12_ring 0 := ⟨⟨rfl, (inC9 (i := 100) rfl rfl), (inC1 (i := 11) rfl rfl), ⟨nh_11.1, nh_11.2, pd_19⟩, by decide +kernel⟩, (inC9 (i := 98) rfl rfl), (inC9 (i := 99) rfl rfl)⟩
set_option maxRecDepth 20000 in
theorem mo_X12_before : MOv m_X12_before 1 := ⟨⟨rfl, (inC9 (i := 112) rfl rfl), (inC1 (i := 11) rfl rfl), ⟨nh_11.1, nh_11.2, pd_12⟩, by decide +kernel⟩, (inC9 (i := 110) rfl rfl), (inC9 (i := 111) rfl rfl)⟩
set_option maxRecDepth 20000 in
theorem mo_X12_after : MOv m_X12_after 1 := ⟨⟨rfl, (inC9 (i := 116) rfl rfl), (inC1 (i := 11) rfl rfl), ⟨nh_11.1, nh_11.2, pd_12⟩, by decide +kernel⟩, (inC9 (i := 114) rfl rfl), (inC9 (i := 115) rfl rfl)⟩
set_option maxRecDepth 20000 in
theorem mo_X12_depth : MOv m_X12_depth 1 := ⟨⟨rfl, (inC9 (i := 120) rfl rfl), (inC1 (i := 11) rfl rfl), ⟨nh_11.1, nh_11.2, pd_12⟩, by decide +kernel⟩, (inC9 (i := 118) rfl rfl), (inC9 (i := 119) rfl rfl)⟩
set_option maxRecDepth 20000 in
theorem mo_X12_chainOf : MOv m_X12_chainOf 1 := ⟨⟨rfl, (inC9 (i := 132) rfl rfl), (inC1 (i := 11) rfl rfl), ⟨nh_11.1, nh_11.2, pd_12⟩, by decide +kernel⟩, (inC9 (i := 131) rfl rfl), inT2 (i := 119) rfl rfl⟩
set_option maxRecDepth 20000 in
theorem mo_X12_soonOf : MOv m_X12_soonOf 1 := ⟨⟨rfl, (inC9 (i := 128) rfl rfl), (inC1 (i := 11) rfl rfl), ⟨nh_11.1, nh_11.2, pd_12⟩, by decide +kernel⟩, (inC9 (i := 127) rfl rfl), inT2 (i := 118) rfl rfl⟩
set_option maxRecDepth 20000 in
theorem mo_X12_soon : MOv m_X12_soon 1 := ⟨⟨rfl, (inC9 (i := 124) rfl rfl), (inC1 (i := 11) rfl rfl), ⟨nh_11.1, nh_11.2, pd_12⟩, by decide +kernel⟩, (inC9 (i := 122) rfl rfl), (inC9 (i := 123) rfl rfl)⟩
set_option maxRecDepth 20000 in
theorem mo_X12_longest : MOv m_X12_longest 0 := ⟨⟨rfl, (inC9 (i := 136) rfl rfl), (inC1 (i := 11) rfl rfl), ⟨nh_11.1, nh_11.2, pd_19⟩, by decide +kernel⟩, (inC9 (i := 134) rfl rfl), (inC9 (i := 135) rfl rfl)⟩
set_option maxRecDepth 20000 in
theorem mo_X12_olderOnes : MOv m_X12_olderOnes 1 := ⟨⟨rfl, (inC9 (i := 144) rfl rfl), (inC1 (i := 11) rfl rfl), ⟨nh_11.1, nh_11.2, pd_12⟩, by decide +kernel⟩, (inC9 (i := 143) rfl rfl), inT2 (i := 120) rfl rfl⟩
set_option maxRecDepth 20000 in
theorem mo_X12_young : MOv m_X12_young 1 := ⟨⟨rfl, (inC9 (i := 140) rfl rfl), (inC1 (i := 11) rfl rfl), ⟨nh_11.1, nh_11.2, pd_12⟩, by decide +kernel⟩, (inC9 (i := 138) rfl rfl), (inC9 (i := 139) rfl rfl)⟩
set_option maxRecDepth 20000 in
theorem mo_X12_older : MOv m_X12_older 1 := ⟨⟨rfl, (inC9 (i := 148) rfl rfl), (inC1 (i := 11) rfl rfl), ⟨nh_11.1, nh_11.2, pd_12⟩, by decide +kernel⟩, (inC9 (i := 146) rfl rfl), (inC9 (i := 147) rfl rfl)⟩
set_option maxRecDepth 20000 in
theorem mo_X12_leanWithin : MOv m_X12_leanWithin 1 := ⟨⟨rfl, (inC9 (i := 160) rfl rfl), (inC1 (i := 11) rfl rfl), ⟨nh_11.1, nh_11.2, pd_18⟩, by decide +kernel⟩, (inC9 (i := 159) rfl rfl), inT2 (i := 122) rfl rfl⟩
set_option maxRecDepth 20000 in
theorem mo_X12_toDo : MOv m_X12_toDo 1 := ⟨⟨rfl, (inC9 (i := 156) rfl rfl), (inC1 (i := 11) rfl rfl), ⟨nh_11.1, nh_11.2, pd_12⟩, by decide +kernel⟩, (inC9 (i := 155) rfl rfl), inT2 (i := 121) rfl rfl⟩
set_option maxRecDepth 20000 in
theorem mo_X12_does : MOv m_X12_does 2 := ⟨⟨rfl, (inC9 (i := 152) rfl rfl), (inC1 (i := 11) rfl rfl), ⟨nh_11.1, nh_11.2, pd_34⟩, by decide +kernel⟩, (inC9 (i := 150) rfl rfl), (inC9 (i := 151) rfl rfl)⟩
set_option maxRecDepth 20000 in
theorem mo_X12_isTold : MOv m_X12_isTold 0 := ⟨⟨rfl, (inC9 (i := 168) rfl rfl), (inC1 (i := 11) rfl rfl), ⟨nh_11.1, nh_11.2, pd_20⟩, by decide +kernel⟩, (inC9 (i := 167) rfl rfl), inT2 (i := 123) rfl rfl⟩
set_option maxRecDepth 20000 in
theorem mo_X12_allThatFit : MOv m_X12_allThatFit 0 := ⟨⟨rfl, (inC9 (i := 172) rfl rfl), (inC1 (i := 11) rfl rfl), ⟨nh_11.1, nh_11.2, pd_19⟩, by decide +kernel⟩, (inC9 (i := 171) rfl rfl), inT2 (i := 124) rfl rfl⟩
set_option maxRecDepth 20000 in
theorem mo_X12_whose : MOv m_X12_whose 0 := ⟨⟨rfl, (inC9 (i := 164) rfl rfl), (inC1 (i := 11) rfl rfl), ⟨nh_11.1, nh_11.2, pd_19⟩, by decide +kernel⟩, (inC9 (i := 162) rfl rfl), (inC9 (i := 163) rfl rfl)⟩
set_option maxRecDepth 20000 in
theorem mo_X12_ask : MOv m_X12_ask 0 := ⟨⟨rfl, (inC9 (i := 176) rfl rfl), (inC1 (i := 11) rfl rfl), ⟨nh_11.1, nh_11.2, pd_19⟩, by decide +kernel⟩, (inC9 (i := 174) rfl rfl), (inC9 (i := 175) rfl rfl)⟩
set_option maxRecDepth 20000 in
theorem mo_X12_isGap : MOv m_X12_isGap 1 := ⟨⟨rfl, (inC9 (i := 184) rfl rfl), (inC1 (i := 11) rfl rfl), ⟨nh_11.1, nh_11.2, pd_18⟩, by decide +kernel⟩, (inC9 (i := 183) rfl rfl), inT2 (i := 125) rfl rfl⟩
set_option maxRecDepth 20000 in
theorem mo_X12_gap : MOv m_X12_gap 0 := ⟨⟨rfl, (inC9 (i := 180) rfl rfl), (inC1 (i := 11) rfl rfl), ⟨nh_11.1, nh_11.2, pd_19⟩, by decide +kernel⟩, (inC9 (i := 178) rfl rfl), (inC9 (i := 179) rfl rfl)⟩
set_option maxRecDepth 20000 in
theorem mo_X12_lost : MOv m_X12_lost 0 := ⟨⟨rfl, (inC9 (i := 188) rfl rfl), (inC1 (i := 11) rfl rfl), ⟨nh_11.1, nh_11.2, pd_19⟩, by decide +kernel⟩, (inC9 (i := 186) rfl rfl), (inC9 (i := 187) rfl rfl)⟩
set_option maxRecDepth 20000 in
theorem mo_X12_missed : MOv m_X12_missed 0 := ⟨⟨rfl, (inC9 (i := 192) rfl rfl), (inC1 (i := 11) rfl rfl), ⟨nh_11.1, nh_11.2, pd_19⟩, by decide +kernel⟩, (inC9 (i := 190) rfl rfl), (inC9 (i := 191) rfl rfl)⟩
set_option maxRecDepth 20000 in
theorem mo_X12_serves : MOv m_X12_serves 4 := ⟨⟨rfl, (inC9 (i := 200) rfl rfl), (inC1 (i := 11) rfl rfl), ⟨nh_11.1, nh_11.2, pd_6⟩, by decide +kernel⟩, (inC9 (i := 199) rfl rfl), inT2 (i := 126) rfl rfl⟩
set_option maxRecDepth 20000 in
theorem mo_X12_swap : MOv m_X12_swap 2 := ⟨⟨rfl, (inC9 (i := 196) rfl rfl), (inC1 (i := 11) rfl rfl), ⟨nh_11.1, nh_11.2, pd_5⟩, by decide +kernel⟩, (inC9 (i := 194) rfl rfl), (inC9 (i := 195) rfl rfl)⟩
set_option maxRecDepth 20000 in
theorem mo_X12_hasBy : MOv m_X12_hasBy 3 := ⟨⟨rfl, (inC9 (i := 208) rfl rfl), (inC1 (i := 11) rfl rfl), ⟨nh_11.1, nh_11.2, pd_8⟩, by decide +kernel⟩, (inC9 (i := 207) rfl rfl), inT2 (i := 127) rfl rfl⟩
set_option maxRecDepth 20000 in
theorem mo_X12_rests : MOv m_X12_rests 3 := ⟨⟨rfl, (inC9 (i := 204) rfl rfl), (inC1 (i := 11) rfl rfl), ⟨nh_11.1, nh_11.2, pd_8⟩, by decide +kernel⟩, (inC9 (i := 202) rfl rfl), (inC9 (i := 203) rfl rfl)⟩
set_option maxRecDepth 20000 in
theorem mo_X12_sponsor : MOv m_X12_sponsor 0 := ⟨⟨rfl, (inC9 (i := 212) rfl rfl), (inC1 (i := 11) rfl rfl), ⟨nh_11.1, nh_11.2, pd_19⟩, by decide +kernel⟩, (inC9 (i := 210) rfl rfl), (inC9 (i := 211) rfl rfl)⟩
set_option maxRecDepth 20000 in
theorem mo_X12_idle : MOv m_X12_idle 0 := ⟨⟨rfl, (inC9 (i := 216) rfl rfl), (inC1 (i := 11) rfl rfl), ⟨nh_11.1, nh_11.2, pd_19⟩, by decide +kernel⟩, (inC9 (i := 214) rfl rfl), (inC9 (i := 215) rfl rfl)⟩
set_option maxRecDepth 20000 in
theorem mo_X12_worst : MOv m_X12_worst 0 := ⟨⟨rfl, (inC9 (i := 220) rfl rfl), (inC1 (i := 11) rfl rfl), ⟨nh_11.1, nh_11.2, pd_19⟩, by decide +kernel⟩, (inC9 (i := 218) rfl rfl), (inC9 (i := 219) rfl rfl)⟩
set_option maxRecDepth 20000 in
theorem mo_X12_alike : MOv m_X12_alike 0 := ⟨⟨rfl, (inC9 (i := 224) rfl rfl), (inC1 (i := 11) rfl rfl), ⟨nh_11.1, nh_11.2, pd_19⟩, by decide +kernel⟩, (inC9 (i := 222) rfl rfl), (inC9 (i := 223) rfl rfl)⟩
set_option maxRecDepth 20000 in
theorem mo_X12_oddsOf : MOv m_X12_oddsOf 3 := ⟨⟨rfl, (inC9 (i := 232) rfl rfl), (inC1 (i := 11) rfl rfl), ⟨nh_11.1, nh_11.2, pd_8⟩, by decide +kernel⟩, (inC9 (i := 231) rfl rfl), inT2 (i := 128) rfl rfl⟩
set_option maxRecDepth 20000 in
theorem mo_X12_odds : MOv m_X12_odds 2 := ⟨⟨rfl, (inC9 (i := 228) rfl rfl), (inC1 (i := 11) rfl rfl), ⟨nh_11.1, nh_11.2, pd_5⟩, by decide +kernel⟩, (inC9 (i := 226) rfl rfl), (inC9 (i := 227) rfl rfl)⟩
set_option maxRecDepth 20000 in
theorem mo_X12_spare : MOv m_X12_spare 2 := ⟨⟨rfl, (inC9 (i := 238) rfl rfl), (inC1 (i := 11) rfl rfl), ⟨nh_11.1, nh_11.2, pd_5⟩, by decide +kernel⟩, (inC9 (i := 236) rfl rfl), (inC9 (i := 237) rfl rfl)⟩
set_option maxRecDepth 20000 in
theorem mo_X12_trial : MOv m_X12_trial 2 := ⟨⟨rfl, (inC10 (i := 2) rfl rfl), (inC1 (i := 11) rfl rfl), ⟨nh_11.1, nh_11.2, pd_34⟩, by decide +kernel⟩, (inC10 (i := 0) rfl rfl), (inC10 (i := 1) rfl rfl)⟩
set_option maxRecDepth 20000 in
theorem mo_X12_span : MOv m_X12_span 2 := ⟨⟨rfl, (inC10 (i := 6) rfl rfl), (inC1 (i := 11) rfl rfl), ⟨nh_11.1, nh_11.2, pd_34⟩, by decide +kernel⟩, (inC10 (i := 4) rfl rfl), (inC10 (i := 5) rfl rfl)⟩
set_option maxRecDepth 20000 in
theorem mo_X12_ofLog : MOv m_X12_ofLog 2 := ⟨⟨rfl, (inC10 (i := 14) rfl rfl), (inC1 (i := 11) rfl rfl), ⟨nh_11.1, nh_11.2, pd_5⟩, by decide +kernel⟩, (inC10 (i := 13) rfl rfl), inT2 (i := 129) rfl rfl⟩
set_option maxRecDepth 20000 in
theorem mo_X12_led : MOv m_X12_led 2 := ⟨⟨rfl, (inC10 (i := 10) rfl rfl), (inC1 (i := 11) rfl rfl), ⟨nh_11.1, nh_11.2, pd_34⟩, by decide +kernel⟩, (inC10 (i := 8) rfl rfl), (inC10 (i := 9) rfl rfl)⟩
set_option maxRecDepth 20000 in
theorem mo_X12_log : MOv m_X12_log 2 := ⟨⟨rfl, (inC10 (i := 18) rfl rfl), (inC1 (i := 11) rfl rfl), ⟨nh_11.1, nh_11.2, pd_5⟩, by decide +kernel⟩, (inC10 (i := 16) rfl rfl), (inC10 (i := 17) rfl rfl)⟩
set_option maxRecDepth 20000 in
theorem mo_X12_seed : MOv m_X12_seed 1 := ⟨⟨rfl, (inC10 (i := 22) rfl rfl), (inC1 (i := 11) rfl rfl), ⟨nh_11.1, nh_11.2, pd_12⟩, by decide +kernel⟩, (inC10 (i := 20) rfl rfl), (inC10 (i := 21) rfl rfl)⟩
set_option maxRecDepth 20000 in
theorem mo_X12_readyOnes : MOv m_X12_readyOnes 0 := ⟨⟨rfl, (inC10 (i := 30) rfl rfl), (inC1 (i := 11) rfl rfl), ⟨nh_11.1, nh_11.2, pd_19⟩, by decide +kernel⟩, (inC10 (i := 29) rfl rfl), inT2 (i := 130) rfl rfl⟩
set_option maxRecDepth 20000 in
theorem mo_X12_count : MOv m_X12_count 1 := ⟨⟨rfl, (inC10 (i := 26) rfl rfl), (inC1 (i := 11) rfl rfl), ⟨nh_11.1, nh_11.2, pd_12⟩, by decide +kernel⟩, (inC10 (i := 24) rfl rfl), (inC10 (i := 25) rfl rfl)⟩
set_option maxRecDepth 20000 in
theorem mo_J6_bitCount_0f7a4 : MOs m_J6_bitCount_0f7a4 1 := ⟨⟨rfl, (inC3 (i := 0) rfl rfl), (inC1 (i := 27) rfl rfl), ⟨nh_12.1, nh_12.2, pd_12⟩, by decide +kernel⟩, (inC2 (i := 239) rfl rfl)⟩
set_option maxRecDepth 20000 in
theorem mo_J0_length_8abf5 : MOv m_J0_length_8abf5 0 := ⟨⟨rfl, (inC4 (i := 9) rfl rfl), (inC1 (i := 14) rfl rfl), ⟨nh_13.1, nh_13.2, pd_19⟩, by decide +kernel⟩, (inC4 (i := 7) rfl rfl), (inC4 (i := 8) rfl rfl)⟩
set_option maxRecDepth 20000 in
theorem mo_J0_charAt_5068e : MOv m_J0_charAt_5068e 1 := ⟨⟨rfl, (inC4 (i := 19) rfl rfl), (inC1 (i := 14) rfl rfl), ⟨nh_13.1, nh_13.2, pd_45⟩, by decide +kernel⟩, (inC4 (i := 17) rfl rfl), (inC4 (i := 18) rfl rfl)⟩
set_option maxRecDepth 20000 in
theorem mo_J0_coder_7d493 : MOv m_J0_coder_7d493 0 := ⟨⟨rfl, (inC4 (i := 13) rfl rfl), (inC1 (i := 14) rfl rfl), ⟨nh_13.1, nh_13.2, pd_46⟩, by decide +kernel⟩, (inC4 (i := 11) rfl rfl), (inC4 (i := 12) rfl rfl)⟩
set_option maxRecDepth 20000 in
theorem mo_J0_isLatin1_aae02 : MOv m_J0_isLatin1_aae02 0 := ⟨⟨rfl, (inC4 (i := 23) rfl rfl), (inC1 (i := 14) rfl rfl), ⟨nh_13.1, nh_13.2, pd_20⟩, by decide +kernel⟩, (inC4 (i := 21) rfl rfl), (inC4 (i := 22) rfl rfl)⟩
set_option maxRecDepth 20000 in
theorem mo_J0_checkIndex_df160 : MOs m_J0_checkIndex_df160 2 := ⟨⟨rfl, (inC4 (i := 29) rfl rfl), (inC1 (i := 14) rfl rfl), ⟨nh_13.1, nh_13.2, pd_14⟩, by decide +kernel⟩, (inC4 (i := 28) rfl rfl)⟩
set_option maxRecDepth 20000 in
theorem mo_J1_charAt_3b067 : MOs m_J1_charAt_3b067 2 := ⟨⟨rfl, (inC4 (i := 26) rfl rfl), (inC1 (i := 15) rfl rfl), ⟨nh_14.1, nh_14.2, pd_47⟩, by decide +kernel⟩, (inC4 (i := 25) rfl rfl)⟩
set_option maxRecDepth 20000 in
theorem mo_J2_getChar_3b067 : MOs m_J2_getChar_3b067 2 := ⟨⟨rfl, (inC4 (i := 47) rfl rfl), (inC1 (i := 17) rfl rfl), ⟨nh_15.1, nh_15.2, pd_47⟩, by decide +kernel⟩, (inC4 (i := 46) rfl rfl)⟩
set_option maxRecDepth 20000 in
theorem mo_J2_length_9d52b : MOs m_J2_length_9d52b 1 := ⟨⟨rfl, (inC4 (i := 43) rfl rfl), (inC1 (i := 17) rfl rfl), ⟨nh_15.1, nh_15.2, pd_48⟩, by decide +kernel⟩, (inC4 (i := 42) rfl rfl)⟩
set_option maxRecDepth 20000 in
theorem mo_J2_charAt_3b067 : MOs m_J2_charAt_3b067 2 := ⟨⟨rfl, (inC4 (i := 37) rfl rfl), (inC1 (i := 17) rfl rfl), ⟨nh_15.1, nh_15.2, pd_47⟩, by decide +kernel⟩, (inC4 (i := 36) rfl rfl)⟩
set_option maxRecDepth 20000 in
theorem mo_J2_checkIndex_2214a : MOs m_J2_checkIndex_2214a 2 := ⟨⟨rfl, (inC4 (i := 40) rfl rfl), (inC1 (i := 17) rfl rfl), ⟨nh_15.1, nh_15.2, pd_49⟩, by decide +kernel⟩, (inC4 (i := 39) rfl rfl)⟩
set_option maxRecDepth 20000 in
theorem mo_J3_checkIndex_8e157 : MOs m_J3_checkIndex_8e157 3 := ⟨⟨rfl, (inC4 (i := 34) rfl rfl), (inC1 (i := 16) rfl rfl), ⟨nh_16.1, nh_16.2, pd_50⟩, by decide +kernel⟩, (inC4 (i := 33) rfl rfl)⟩
set_option maxRecDepth 20000 in
theorem mo_L_street : MOw m_L_street 2 := ⟨by decide, (inC3 (i := 202) rfl rfl), (inC1 (i := 0) rfl rfl), ⟨nh_17.1, nh_17.2, pd_51⟩, by decide +kernel, (inC3 (i := 201) rfl rfl)⟩
set_option maxRecDepth 20000 in
theorem mo_L_law : MOw m_L_law 2 := ⟨by decide, (inC5 (i := 72) rfl rfl), (inC1 (i := 0) rfl rfl), ⟨nh_17.1, nh_17.2, pd_51⟩, by decide +kernel, (inC5 (i := 71) rfl rfl)⟩
set_option maxRecDepth 20000 in
theorem mo_L_person : MOw m_L_person 4 := ⟨by decide, (inC5 (i := 86) rfl rfl), (inC1 (i := 0) rfl rfl), ⟨nh_17.1, nh_17.2, pd_52⟩, by decide +kernel, (inC5 (i := 85) rfl rfl)⟩
set_option maxRecDepth 20000 in
theorem mo_L_duty : MOw m_L_duty 4 := ⟨by decide, (inC5 (i := 137) rfl rfl), (inC1 (i := 0) rfl rfl), ⟨nh_17.1, nh_17.2, pd_52⟩, by decide +kernel, (inC5 (i := 136) rfl rfl)⟩
set_option maxRecDepth 20000 in
theorem mo_L_call : MOw m_L_call 3 := ⟨by decide, (inC5 (i := 152) rfl rfl), (inC1 (i := 0) rfl rfl), ⟨nh_17.1, nh_17.2, pd_53⟩, by decide +kernel, (inC5 (i := 151) rfl rfl)⟩
set_option maxRecDepth 20000 in
theorem mo_L_put : MOw m_L_put 3 := ⟨by decide, (inC5 (i := 180) rfl rfl), (inC1 (i := 0) rfl rfl), ⟨nh_17.1, nh_17.2, pd_53⟩, by decide +kernel, (inC5 (i := 179) rfl rfl)⟩
set_option maxRecDepth 20000 in
theorem mo_L_forget : MOw m_L_forget 3 := ⟨by decide, (inC5 (i := 192) rfl rfl), (inC1 (i := 0) rfl rfl), ⟨nh_17.1, nh_17.2, pd_53⟩, by decide +kernel, (inC5 (i := 191) rfl rfl)⟩
set_option maxRecDepth 20000 in
theorem mo_L_recall : MOw m_L_recall 3 := ⟨by decide, (inC5 (i := 199) rfl rfl), (inC1 (i := 0) rfl rfl), ⟨nh_17.1, nh_17.2, pd_53⟩, by decide +kernel, (inC5 (i := 198) rfl rfl)⟩
set_option maxRecDepth 20000 in
theorem mo_L_hand : MOw m_L_hand 4 := ⟨by decide, (inC5 (i := 206) rfl rfl), (inC1 (i := 0) rfl rfl), ⟨nh_17.1, nh_17.2, pd_52⟩, by decide +kernel, (inC5 (i := 205) rfl rfl)⟩
set_option maxRecDepth 20000 in
theorem mo_L_lean : MOw m_L_lean 4 := ⟨by decide, (inC5 (i := 216) rfl rfl), (inC1 (i := 0) rfl rfl), ⟨nh_17.1, nh_17.2, pd_52⟩, by decide +kernel, (inC5 (i := 215) rfl rfl)⟩
set_option maxRecDepth 20000 in
theorem mo_L_free : MOw m_L_free 4 := ⟨by decide, (inC5 (i := 223) rfl rfl), (inC1 (i := 0) rfl rfl), ⟨nh_17.1, nh_17.2, pd_52⟩, by decide +kernel, (inC5 (i := 222) rfl rfl)⟩
set_option maxRecDepth 20000 in
theorem mo_L_days : MOw m_L_days 3 := ⟨by decide, (inC5 (i := 233) rfl rfl), (inC1 (i := 0) rfl rfl), ⟨nh_17.1, nh_17.2, pd_53⟩, by decide +kernel, (inC5 (i := 232) rfl rfl)⟩
set_option maxRecDepth 20000 in
theorem mo_L_greets : MOw m_L_greets 4 := ⟨by decide, (inC6 (i := 12) rfl rfl), (inC1 (i := 0) rfl rfl), ⟨nh_17.1, nh_17.2, pd_52⟩, by decide +kernel, (inC6 (i := 11) rfl rfl)⟩
set_option maxRecDepth 20000 in
theorem mo_L_where : MOw m_L_where 4 := ⟨by decide, (inC6 (i := 22) rfl rfl), (inC1 (i := 0) rfl rfl), ⟨nh_17.1, nh_17.2, pd_52⟩, by decide +kernel, (inC6 (i := 21) rfl rfl)⟩
set_option maxRecDepth 20000 in
theorem mo_L_crowd : MOw m_L_crowd 5 := ⟨by decide, (inC6 (i := 33) rfl rfl), (inC1 (i := 0) rfl rfl), ⟨nh_17.1, nh_17.2, pd_54⟩, by decide +kernel, (inC6 (i := 32) rfl rfl)⟩
set_option maxRecDepth 20000 in
theorem mo_L_does : MOw m_L_does 4 := ⟨by decide, (inC6 (i := 40) rfl rfl), (inC1 (i := 0) rfl rfl), ⟨nh_17.1, nh_17.2, pd_55⟩, by decide +kernel, (inC6 (i := 39) rfl rfl)⟩
set_option maxRecDepth 20000 in
theorem mo_L_soon : MOw m_L_soon 3 := ⟨by decide, (inC6 (i := 58) rfl rfl), (inC1 (i := 0) rfl rfl), ⟨nh_17.1, nh_17.2, pd_53⟩, by decide +kernel, (inC6 (i := 57) rfl rfl)⟩
set_option maxRecDepth 20000 in
theorem mo_L_before : MOw m_L_before 3 := ⟨by decide, (inC6 (i := 65) rfl rfl), (inC1 (i := 0) rfl rfl), ⟨nh_17.1, nh_17.2, pd_53⟩, by decide +kernel, (inC6 (i := 64) rfl rfl)⟩
set_option maxRecDepth 20000 in
theorem mo_L_after : MOw m_L_after 3 := ⟨by decide, (inC6 (i := 73) rfl rfl), (inC1 (i := 0) rfl rfl), ⟨nh_17.1, nh_17.2, pd_53⟩, by decide +kernel, (inC6 (i := 72) rfl rfl)⟩
set_option maxRecDepth 20000 in
theorem mo_L_depth : MOw m_L_depth 3 := ⟨by decide, (inC6 (i := 83) rfl rfl), (inC1 (i := 0) rfl rfl), ⟨nh_17.1, nh_17.2, pd_53⟩, by decide +kernel, (inC6 (i := 82) rfl rfl)⟩
set_option maxRecDepth 20000 in
theorem mo_L_young : MOw m_L_young 3 := ⟨by decide, (inC6 (i := 90) rfl rfl), (inC1 (i := 0) rfl rfl), ⟨nh_17.1, nh_17.2, pd_53⟩, by decide +kernel, (inC6 (i := 89) rfl rfl)⟩
set_option maxRecDepth 20000 in
theorem mo_L_older : MOw m_L_older 3 := ⟨by decide, (inC6 (i := 101) rfl rfl), (inC1 (i := 0) rfl rfl), ⟨nh_17.1, nh_17.2, pd_53⟩, by decide +kernel, (inC6 (i := 100) rfl rfl)⟩
set_option maxRecDepth 20000 in
theorem mo_L_whose : MOw m_L_whose 2 := ⟨by decide, (inC6 (i := 108) rfl rfl), (inC1 (i := 0) rfl rfl), ⟨nh_17.1, nh_17.2, pd_51⟩, by decide +kernel, (inC6 (i := 107) rfl rfl)⟩
set_option maxRecDepth 20000 in
theorem mo_L_ask : MOw m_L_ask 2 := ⟨by decide, (inC6 (i := 128) rfl rfl), (inC1 (i := 0) rfl rfl), ⟨nh_17.1, nh_17.2, pd_51⟩, by decide +kernel, (inC6 (i := 127) rfl rfl)⟩
set_option maxRecDepth 20000 in
theorem mo_L_swap : MOw m_L_swap 4 := ⟨by decide, (inC6 (i := 139) rfl rfl), (inC1 (i := 0) rfl rfl), ⟨nh_17.1, nh_17.2, pd_52⟩, by decide +kernel, (inC6 (i := 138) rfl rfl)⟩
set_option maxRecDepth 20000 in
theorem mo_L_rests : MOw m_L_rests 5 := ⟨by decide, (inC6 (i := 155) rfl rfl), (inC1 (i := 0) rfl rfl), ⟨nh_17.1, nh_17.2, pd_54⟩, by decide +kernel, (inC6 (i := 154) rfl rfl)⟩
set_option maxRecDepth 20000 in
theorem mo_L_odds : MOw m_L_odds 4 := ⟨by decide, (inC6 (i := 171) rfl rfl), (inC1 (i := 0) rfl rfl), ⟨nh_17.1, nh_17.2, pd_52⟩, by decide +kernel, (inC6 (i := 170) rfl rfl)⟩
set_option maxRecDepth 20000 in
theorem mo_L_spare : MOw m_L_spare 4 := ⟨by decide, (inC6 (i := 185) rfl rfl), (inC1 (i := 0) rfl rfl), ⟨nh_17.1, nh_17.2, pd_52⟩, by decide +kernel, (inC6 (i := 184) rfl rfl)⟩
set_option maxRecDepth 20000 in
theorem mo_L_done : MOw m_L_done 3 := ⟨by decide, (inC6 (i := 196) rfl rfl), (inC1 (i := 0) rfl rfl), ⟨nh_17.1, nh_17.2, pd_53⟩, by decide +kernel, (inC6 (i := 195) rfl rfl)⟩
set_option maxRecDepth 20000 in
theorem mo_L_sick : MOw m_L_sick 3 := ⟨by decide, (inC6 (i := 207) rfl rfl), (inC1 (i := 0) rfl rfl), ⟨nh_17.1, nh_17.2, pd_53⟩, by decide +kernel, (inC6 (i := 206) rfl rfl)⟩
set_option maxRecDepth 20000 in
theorem mo_L_ahead : MOw m_L_ahead 5 := ⟨by decide, (inC6 (i := 214) rfl rfl), (inC1 (i := 0) rfl rfl), ⟨nh_17.1, nh_17.2, pd_54⟩, by decide +kernel, (inC6 (i := 213) rfl rfl)⟩
set_option maxRecDepth 20000 in
theorem mo_L_trial : MOw m_L_trial 4 := ⟨by decide, (inC6 (i := 221) rfl rfl), (inC1 (i := 0) rfl rfl), ⟨nh_17.1, nh_17.2, pd_55⟩, by decide +kernel, (inC6 (i := 220) rfl rfl)⟩
set_option maxRecDepth 20000 in
theorem mo_L_span : MOw m_L_span 4 := ⟨by decide, (inC6 (i := 232) rfl rfl), (inC1 (i := 0) rfl rfl), ⟨nh_17.1, nh_17.2, pd_55⟩, by decide +kernel, (inC6 (i := 231) rfl rfl)⟩
set_option maxRecDepth 20000 in
theorem mo_L_led : MOw m_L_led 4 := ⟨by decide, (inC6 (i := 239) rfl rfl), (inC1 (i := 0) rfl rfl), ⟨nh_17.1, nh_17.2, pd_55⟩, by decide +kernel, (inC6 (i := 238) rfl rfl)⟩
set_option maxRecDepth 20000 in
theorem mo_L_log : MOw m_L_log 4 := ⟨by decide, (inC7 (i := 19) rfl rfl), (inC1 (i := 0) rfl rfl), ⟨nh_17.1, nh_17.2, pd_52⟩, by decide +kernel, (inC7 (i := 18) rfl rfl)⟩
set_option maxRecDepth 20000 in
theorem lX11_1 : inT (.methodLink RX11 1 Lib.objectInit) := (inC1 (i := 35) rfl rfl)
set_option maxRecDepth 20000 in
theorem lX11_9 : LKn RX11 9 m_X7_init := ⟨"PutOffParade", inD1 (i := 40) rfl⟩
set_option maxRecDepth 20000 in
theorem lX11_18 : LK RX11 18 m_X6_init := (inC1 (i := 56) rfl rfl)
set_option maxRecDepth 20000 in
theorem lX11_25 : LK RX11 25 m_X3_init := (inC2 (i := 4) rfl rfl)
set_option maxRecDepth 20000 in
theorem lX11_36 : LKn RX11 36 m_X5_init := ⟨"PutOffParade", inD2 (i := 60) rfl⟩
set_option maxRecDepth 20000 in
theorem lX11_43 : LKn RX11 43 m_X2_init := ⟨"PutOffParade", inD2 (i := 62) rfl⟩
set_option maxRecDepth 20000 in
theorem lX11_50 : LKn RX11 50 m_X0_init := ⟨"PutOffParade", inD2 (i := 65) rfl⟩
set_option maxRecDepth 20000 in
theorem lX11_71 : LK RX11 71 m_X7_append := (inC2 (i := 124) rfl rfl)
set_option maxRecDepth 20000 in
theorem lX11_78 : LK RX11 78 m_X5_copyFrom := (inC3 (i := 106) rfl rfl)
set_option maxRecDepth 20000 in
theorem lX11_100 : LK RX11 100 m_X2_clear := (inC5 (i := 77) rfl rfl)
set_option maxRecDepth 20000 in
theorem lX11_104 : LK RX11 104 m_X2_copyFrom := (inC3 (i := 191) rfl rfl)
set_option maxRecDepth 20000 in
theorem lX11_110 : LK RX11 110 m_X11_needPerson := (inC5 (i := 93) rfl rfl)
set_option maxRecDepth 20000 in
theorem lX11_117 : LK RX11 117 m_X11_at := (inC3 (i := 63) rfl rfl)
set_option maxRecDepth 20000 in
theorem lX11_124 : LK RX11 124 m_X5_ownedBy := (inC5 (i := 112) rfl rfl)
set_option maxRecDepth 20000 in
theorem lX11_128 : LK RX11 128 m_X5_loadOf := (inC3 (i := 80) rfl rfl)
set_option maxRecDepth 20000 in
theorem lX11_131 : LK RX11 131 m_X11_needsOf := (inC5 (i := 113) rfl rfl)
set_option maxRecDepth 20000 in
theorem lX11_135 : LK RX11 135 m_X11_shareOf := (inC5 (i := 116) rfl rfl)
set_option maxRecDepth 20000 in
theorem lX11_141 : LK RX11 141 m_X11_needDuty := (inC5 (i := 142) rfl rfl)
set_option maxRecDepth 20000 in
theorem lX11_162 : LK RX11 162 m_X5_isReady := (inC5 (i := 146) rfl rfl)
set_option maxRecDepth 20000 in
theorem lX11_166 : LK RX11 166 m_X2_growthOf := (inC5 (i := 147) rfl rfl)
set_option maxRecDepth 20000 in
theorem lX11_170 : LK RX11 170 m_X2_shameOf := (inC3 (i := 93) rfl rfl)
set_option maxRecDepth 20000 in
theorem lX11_173 : LK RX11 173 m_X5_placeOf := (inC5 (i := 148) rfl rfl)
set_option maxRecDepth 20000 in
theorem lX11_176 : LK RX11 176 m_X5_passesOf := (inC5 (i := 149) rfl rfl)
set_option maxRecDepth 20000 in
theorem lX11_200 : LK RX11 200 m_X5_bitsIn := (inC2 (i := 140) rfl rfl)
set_option maxRecDepth 20000 in
theorem lX11_203 : LK RX11 203 m_X5_readyBits := (inC2 (i := 150) rfl rfl)
set_option maxRecDepth 20000 in
theorem lX11_207 : LK RX11 207 m_X11_shameOfWaiting := (inC2 (i := 166) rfl rfl)
set_option maxRecDepth 20000 in
theorem lX11_220 : LK RX11 220 m_X5_canBits := (inC2 (i := 225) rfl rfl)
set_option maxRecDepth 20000 in
theorem lX11_223 : LK RX11 223 m_X11_has := (inC5 (i := 158) rfl rfl)
set_option maxRecDepth 20000 in
theorem lX11_230 : LK RX11 230 m_X11_rememberAct := (inC5 (i := 174) rfl rfl)
set_option maxRecDepth 20000 in
theorem lX11_233 : LK RX11 233 m_X5_finish := (inC3 (i := 164) rfl rfl)
set_option maxRecDepth 20000 in
theorem lX11_236 : LK RX11 236 m_X11_needState := (inC5 (i := 185) rfl rfl)
set_option maxRecDepth 20000 in
theorem lX11_240 : LK RX11 240 m_X5_growOlder := (inC5 (i := 189) rfl rfl)
set_option maxRecDepth 20000 in
theorem lX11_243 : LK RX11 243 m_X11_setAt := (inC3 (i := 159) rfl rfl)
set_option maxRecDepth 20000 in
theorem lX11_247 : LK RX11 247 m_X11_needTwo := (inC5 (i := 211) rfl rfl)
set_option maxRecDepth 20000 in
theorem lX11_250 : LK RX11 250 m_X11_needNumber := (inC5 (i := 228) rfl rfl)
set_option maxRecDepth 20000 in
theorem lX11_254 : LK RX11 254 m_X5_passDay := (inC5 (i := 238) rfl rfl)
set_option maxRecDepth 20000 in
theorem lX11_258 : LK RX11 258 m_X11_letParadeGoBy := (inC5 (i := 239) rfl rfl)
set_option maxRecDepth 20000 in
theorem lX11_261 : LK RX11 261 m_J6_bitCount_0f7a4 := (inC6 (i := 9) rfl rfl)
set_option maxRecDepth 20000 in
theorem lX11_266 : LK RX11 266 m_X5_dutyAt := (inC2 (i := 213) rfl rfl)
set_option maxRecDepth 20000 in
theorem lX11_269 : LK RX11 269 m_X11_needKerb := (inC6 (i := 17) rfl rfl)
set_option maxRecDepth 20000 in
theorem lX11_272 : LK RX11 272 m_X5_kerbAt := (inC6 (i := 27) rfl rfl)
set_option maxRecDepth 20000 in
theorem lX11_275 : LK RX11 275 m_X0_mostCalled := (inC3 (i := 8) rfl rfl)
set_option maxRecDepth 20000 in
theorem lX11_278 : LK RX11 278 m_X0_leastShame := (inC6 (i := 45) rfl rfl)
set_option maxRecDepth 20000 in
theorem lX11_282 : LK RX11 282 m_X2_shameOfSet := (inC2 (i := 170) rfl rfl)
set_option maxRecDepth 20000 in
theorem lX11_285 : LK RX11 285 m_X4_hoursTill := (inC3 (i := 27) rfl rfl)
set_option maxRecDepth 20000 in
theorem lX11_290 : inT (.methodLink RX11 290 Lib.Math.max.name) := (inC3 (i := 47) rfl rfl)
set_option maxRecDepth 20000 in
theorem lX11_295 : LK RX11 295 m_X4_ringBits := (inC3 (i := 52) rfl rfl)
set_option maxRecDepth 20000 in
theorem lX11_298 : LK RX11 298 m_X4_chainOf := (inC6 (i := 70) rfl rfl)
set_option maxRecDepth 20000 in
theorem lX11_301 : LK RX11 301 m_X4_leaningOn := (inC6 (i := 78) rfl rfl)
set_option maxRecDepth 20000 in
theorem lX11_304 : LK RX11 304 m_X4_hoursTillYoung := (inC6 (i := 95) rfl rfl)
set_option maxRecDepth 20000 in
theorem lX11_307 : LK RX11 307 m_X5_olderThan := (inC3 (i := 61) rfl rfl)
set_option maxRecDepth 20000 in
theorem lX11_310 : LK RX11 310 m_X11_takeWhoFits := (inC6 (i := 113) rfl rfl)
set_option maxRecDepth 20000 in
theorem lX11_313 : LK RX11 313 m_X11_kerbToAskFor := (inC6 (i := 133) rfl rfl)
set_option maxRecDepth 20000 in
theorem lX11_316 : LK RX11 316 m_X11_isGap := (inC3 (i := 57) rfl rfl)
set_option maxRecDepth 20000 in
theorem lX11_319 : LK RX11 319 m_X11_bit := (inC2 (i := 177) rfl rfl)
set_option maxRecDepth 20000 in
theorem lX11_322 : LK RX11 322 m_X0_firstSwap := (inC6 (i := 144) rfl rfl)
set_option maxRecDepth 20000 in
theorem lX11_326 : LK RX11 326 m_X0_restingChoices := (inC6 (i := 160) rfl rfl)
set_option maxRecDepth 20000 in
theorem lX11_329 : LK RX11 329 m_X5_isWaiting := (inC3 (i := 62) rfl rfl)
set_option maxRecDepth 20000 in
theorem lX11_332 : LK RX11 332 m_X5_areAlike := (inC3 (i := 98) rfl rfl)
set_option maxRecDepth 20000 in
theorem lX11_335 : LK RX11 335 m_X0_oddsOf := (inC6 (i := 176) rfl rfl)
set_option maxRecDepth 20000 in
theorem lX11_339 : LK RX11 339 m_X0_daysToLeaveFree := (inC6 (i := 190) rfl rfl)
set_option maxRecDepth 20000 in
theorem lX11_342 : LK RX11 342 m_X5_daysTillDone := (inC6 (i := 201) rfl rfl)
set_option maxRecDepth 20000 in
theorem lX11_346 : LK RX11 346 m_X5_daysTillNoneWaits := (inC3 (i := 119) rfl rfl)
set_option maxRecDepth 20000 in
theorem lX11_350 : inT (.methodLink RX11 350 Lib.Math.min.name) := (inC3 (i := 113) rfl rfl)
set_option maxRecDepth 20000 in
theorem lX11_356 : LK RX11 356 m_X11_shameTriedOut := (inC6 (i := 226) rfl rfl)
set_option maxRecDepth 20000 in
theorem lX11_359 : LK RX11 359 m_X1_latestMonthOf := (inC7 (i := 4) rfl rfl)
set_option maxRecDepth 20000 in
theorem lX11_362 : LK RX11 362 m_X1_rowsOf := (inC7 (i := 13) rfl rfl)
set_option maxRecDepth 20000 in
theorem lX11_365 : LK RX11 365 m_X1_valueOf := (inC7 (i := 24) rfl rfl)
set_option maxRecDepth 20000 in
theorem lX11_371 : LK RX11 371 m_X11_pastAt := (inC3 (i := 173) rfl rfl)
set_option maxRecDepth 20000 in
theorem lX11_375 : LK RX11 375 m_X5_copyAll := (inC3 (i := 177) rfl rfl)
set_option maxRecDepth 20000 in
theorem lX11_385 : LK RX11 385 m_X1_add := (inC6 (i := 3) rfl rfl)
set_option maxRecDepth 20000 in
theorem lX11_389 : LK RX11 389 m_X11_whoFits := (inC6 (i := 117) rfl rfl)
set_option maxRecDepth 20000 in
theorem lX11_392 : LK RX11 392 m_X7_byteAt := (inC6 (i := 121) rfl rfl)
set_option maxRecDepth 20000 in
theorem lX11_395 : LK RX11 395 m_X5_standingBetween := (inC6 (i := 122) rfl rfl)
set_option maxRecDepth 20000 in
theorem lX11_398 : inT (.methodLink RX11 398 arraycopyName) := (inC3 (i := 116) rfl rfl)
set_option maxRecDepth 20000 in
theorem lX0_3 : inT (.methodLink RX0 3 Lib.objectInit) := (inC2 (i := 68) rfl rfl)
set_option maxRecDepth 20000 in
theorem lX0_18 : LK RX0 18 m_X5_canBits := (inC3 (i := 12) rfl rfl)
set_option maxRecDepth 20000 in
theorem lX0_28 : LK RX0 28 m_X5_placeOf := (inC3 (i := 13) rfl rfl)
set_option maxRecDepth 20000 in
theorem lX0_32 : LKn RX0 32 m_X11_setAt := ⟨"PutOffParade", inD3 (i := 14) rfl⟩
set_option maxRecDepth 20000 in
theorem lX0_36 : LK RX0 36 m_J6_bitCount_0f7a4 := (inC3 (i := 15) rfl rfl)
set_option maxRecDepth 20000 in
theorem lX0_41 : LK RX0 41 m_X0_canBeCalledTogether := (inC3 (i := 16) rfl rfl)
set_option maxRecDepth 20000 in
theorem lX0_45 : LKn RX0 45 m_X11_has := ⟨"PutOffParade", inD3 (i := 20) rfl⟩
set_option maxRecDepth 20000 in
theorem lX0_52 : LKn RX0 52 m_X11_at := ⟨"PutOffParade", inD3 (i := 21) rfl⟩
set_option maxRecDepth 20000 in
theorem lX0_56 : LKn RX0 56 m_X11_bit := ⟨"PutOffParade", inD3 (i := 22) rfl⟩
set_option maxRecDepth 20000 in
theorem lX0_59 : LK RX0 59 m_X5_bitsIn := (inC6 (i := 49) rfl rfl)
set_option maxRecDepth 20000 in
theorem lX0_62 : LK RX0 62 m_X2_shameOf := (inC6 (i := 50) rfl rfl)
set_option maxRecDepth 20000 in
theorem lX0_71 : LKn RX0 71 m_X11_sumOver := ⟨"PutOffParade", inD6 (i := 51) rfl⟩
set_option maxRecDepth 20000 in
theorem lX0_74 : LK RX0 74 m_X0_leansWithin := (inC6 (i := 52) rfl rfl)
set_option maxRecDepth 20000 in
theorem lX0_77 : LK RX0 77 m_X5_leansFreely := (inC6 (i := 55) rfl rfl)
set_option maxRecDepth 20000 in
theorem lX0_84 : LK RX0 84 m_X5_ownedBy := (inC6 (i := 147) rfl rfl)
set_option maxRecDepth 20000 in
theorem lX0_87 : LK RX0 87 m_X0_gainOf := (inC6 (i := 148) rfl rfl)
set_option maxRecDepth 20000 in
theorem lX0_91 : LK RX0 91 m_X5_loadOf := (inC6 (i := 151) rfl rfl)
set_option maxRecDepth 20000 in
theorem lX0_97 : LKn RX0 97 m_X11_needsOf := ⟨"PutOffParade", inD6 (i := 152) rfl⟩
set_option maxRecDepth 20000 in
theorem lX0_101 : LK RX0 101 m_X0_isBest := (inC6 (i := 163) rfl rfl)
set_option maxRecDepth 20000 in
theorem lX0_105 : LK RX0 105 m_X0_payOf := (inC6 (i := 166) rfl rfl)
set_option maxRecDepth 20000 in
theorem lX0_109 : LK RX0 109 m_X0_power := (inC6 (i := 179) rfl rfl)
set_option maxRecDepth 20000 in
theorem lX0_115 : LK RX0 115 m_X0_oddsOf := (inC6 (i := 193) rfl rfl)
set_option maxRecDepth 20000 in
theorem lX1_3 : inT (.methodLink RX1 3 Lib.objectInit) := (inC1 (i := 119) rfl rfl)
set_option maxRecDepth 20000 in
theorem lX1_22 : LKn RX1 22 m_X11_copyRow := ⟨"PutOffParade", inD3 (i := 186) rfl⟩
set_option maxRecDepth 20000 in
theorem lX1_26 : LKn RX1 26 m_X11_setAt := ⟨"PutOffParade", inD6 (i := 7) rfl⟩
set_option maxRecDepth 20000 in
theorem lX1_30 : inT (.methodLink RX1 30 Lib.Math.min.name) := (inC6 (i := 8) rfl rfl)
set_option maxRecDepth 20000 in
theorem lX1_36 : LKn RX1 36 m_X11_at := ⟨"PutOffParade", inD7 (i := 12) rfl⟩
set_option maxRecDepth 20000 in
theorem lX1_40 : LK RX1 40 m_X1_valueOf := (inC7 (i := 8) rfl rfl)
set_option maxRecDepth 20000 in
theorem lX2_5 : inT (.methodLink RX2 5 Lib.objectInit) := (inC2 (i := 13) rfl rfl)
set_option maxRecDepth 20000 in
theorem lX2_37 : LKn RX2 37 m_X11_copyRow := ⟨"PutOffParade", inD3 (i := 195) rfl⟩
set_option maxRecDepth 20000 in
theorem lX2_44 : LKn RX2 44 m_X11_setAt := ⟨"PutOffParade", inD2 (i := 191) rfl⟩
set_option maxRecDepth 20000 in
theorem lX2_48 : LK RX2 48 m_X2_takeParts := (inC2 (i := 182) rfl rfl)
set_option maxRecDepth 20000 in
theorem lX2_52 : LK RX2 52 m_X2_sumOfLines := (inC2 (i := 195) rfl rfl)
set_option maxRecDepth 20000 in
theorem lX2_61 : LKn RX2 61 m_X11_at := ⟨"PutOffParade", inD2 (i := 186) rfl⟩
set_option maxRecDepth 20000 in
theorem lX2_65 : inT (.methodLink RX2 65 Lib.Math.max.name) := (inC2 (i := 206) rfl rfl)
set_option maxRecDepth 20000 in
theorem lX2_74 : LKn RX2 74 m_X11_has := ⟨"PutOffParade", inD2 (i := 174) rfl⟩
set_option maxRecDepth 20000 in
theorem lX2_78 : LK RX2 78 m_X2_shameOf := (inC2 (i := 178) rfl rfl)
set_option maxRecDepth 20000 in
theorem lX2_88 : LK RX2 88 m_X2_setPart := (inC2 (i := 187) rfl rfl)
set_option maxRecDepth 20000 in
theorem lX2_101 : LK RX2 101 m_X5_leansFreely := (inC2 (i := 194) rfl rfl)
set_option maxRecDepth 20000 in
theorem lX2_105 : LK RX2 105 m_X2_holds := (inC2 (i := 199) rfl rfl)
set_option maxRecDepth 20000 in
theorem lX2_108 : LK RX2 108 m_X2_joined := (inC2 (i := 203) rfl rfl)
set_option maxRecDepth 20000 in
theorem lX3_5 : LK RX3 5 m_X8_init := (inC2 (i := 7) rfl rfl)
set_option maxRecDepth 20000 in
theorem lX3_11 : LKn RX3 11 m_X2_init := ⟨"PutOffParade", inD2 (i := 10) rfl⟩
set_option maxRecDepth 20000 in
theorem lX3_24 : LK RX3 24 m_X3_takeKind := (inC4 (i := 73) rfl rfl)
set_option maxRecDepth 20000 in
theorem lX3_32 : LK RX3 32 m_X9_takeNumber := (inC4 (i := 87) rfl rfl)
set_option maxRecDepth 20000 in
theorem lX3_38 : LK RX3 38 m_X2_openLine := (inC4 (i := 91) rfl rfl)
set_option maxRecDepth 20000 in
theorem lX3_48 : LK RX3 48 m_X9_takeWord := (inC4 (i := 79) rfl rfl)
set_option maxRecDepth 20000 in
theorem lX3_52 : LK RX3 52 m_X3_readCondition := (inC4 (i := 97) rfl rfl)
set_option maxRecDepth 20000 in
theorem lX3_56 : LK RX3 56 m_X2_closeLine := (inC4 (i := 159) rfl rfl)
set_option maxRecDepth 20000 in
theorem lX3_75 : LK RX3 75 m_X3_openDeeper := (inC4 (i := 101) rfl rfl)
set_option maxRecDepth 20000 in
theorem lX3_78 : LK RX3 78 m_X3_readAtom := (inC4 (i := 117) rfl rfl)
set_option maxRecDepth 20000 in
theorem lX3_81 : LK RX3 81 m_X3_closeDeeper := (inC4 (i := 142) rfl rfl)
set_option maxRecDepth 20000 in
theorem lX3_84 : LK RX3 84 m_X3_joinAtHand := (inC4 (i := 151) rfl rfl)
set_option maxRecDepth 20000 in
theorem lX3_87 : LK RX3 87 m_X3_emitHeld := (inC4 (i := 146) rfl rfl)
set_option maxRecDepth 20000 in
theorem lX3_90 : LK RX3 90 m_X3_hold := (inC4 (i := 111) rfl rfl)
set_option maxRecDepth 20000 in
theorem lX3_93 : LK RX3 93 m_X9_next := (inC4 (i := 116) rfl rfl)
set_option maxRecDepth 20000 in
theorem lX3_108 : LK RX3 108 m_X9_isSign := (inC4 (i := 107) rfl rfl)
set_option maxRecDepth 20000 in
theorem lX3_112 : LKn RX3 112 m_X11_setAt := ⟨"PutOffParade", inD4 (i := 115) rfl⟩
set_option maxRecDepth 20000 in
theorem lX3_116 : LKn RX3 116 m_X11_at := ⟨"PutOffParade", inD4 (i := 150) rfl⟩
set_option maxRecDepth 20000 in
theorem lX3_120 : LK RX3 120 m_X2_emit := (inC4 (i := 123) rfl rfl)
set_option maxRecDepth 20000 in
theorem lX3_129 : LK RX3 129 m_X3_readSum := (inC4 (i := 129) rfl rfl)
set_option maxRecDepth 20000 in
theorem lX3_132 : LK RX3 132 m_X9_takeSign := (inC4 (i := 137) rfl rfl)
set_option maxRecDepth 20000 in
theorem lX3_135 : LK RX3 135 m_X3_partAtHand := (inC4 (i := 133) rfl rfl)
set_option maxRecDepth 20000 in
theorem lX4_15 : LKn RX4 15 m_X11_at := ⟨"PutOffParade", inD3 (i := 35) rfl⟩
set_option maxRecDepth 20000 in
theorem lX4_19 : LKn RX4 19 m_X11_bit := ⟨"PutOffParade", inD3 (i := 31) rfl⟩
set_option maxRecDepth 20000 in
theorem lX4_27 : LK RX4 27 m_X4_chainOf := (inC3 (i := 32) rfl rfl)
set_option maxRecDepth 20000 in
theorem lX4_33 : LKn RX4 33 m_X11_has := ⟨"PutOffParade", inD3 (i := 42) rfl⟩
set_option maxRecDepth 20000 in
theorem lX4_37 : LK RX4 37 m_X5_isWaiting := (inC3 (i := 30) rfl rfl)
set_option maxRecDepth 20000 in
theorem lX4_41 : LK RX4 41 m_X4_hoursOf := (inC3 (i := 36) rfl rfl)
set_option maxRecDepth 20000 in
theorem lX4_44 : LK RX4 44 m_X5_olderThan := (inC6 (i := 98) rfl rfl)
set_option maxRecDepth 20000 in
theorem lX4_47 : LK RX4 47 m_X5_bitsIn := (inC3 (i := 43) rfl rfl)
set_option maxRecDepth 20000 in
theorem lX4_50 : LK RX4 50 m_X4_ringBits := (inC3 (i := 39) rfl rfl)
set_option maxRecDepth 20000 in
theorem lX4_57 : LKn RX4 57 m_X11_sumOver := ⟨"PutOffParade", inD3 (i := 44) rfl⟩
set_option maxRecDepth 20000 in
theorem lX5_3 : inT (.methodLink RX5 3 Lib.objectInit) := (inC1 (i := 113) rfl rfl)
set_option maxRecDepth 20000 in
theorem lX5_51 : LKn RX5 51 m_X1_init := ⟨"PutOffParade", inD1 (i := 116) rfl⟩
set_option maxRecDepth 20000 in
theorem lX5_59 : LKn RX5 59 m_X11_copyRow := ⟨"PutOffParade", inD3 (i := 110) rfl⟩
set_option maxRecDepth 20000 in
theorem lX5_75 : LK RX5 75 m_X5_copyFrom := (inC3 (i := 181) rfl rfl)
set_option maxRecDepth 20000 in
theorem lX5_79 : LK RX5 79 m_X1_copyFrom := (inC3 (i := 182) rfl rfl)
set_option maxRecDepth 20000 in
theorem lX5_82 : LKn RX5 82 m_X11_setAt := ⟨"PutOffParade", inD3 (i := 138) rfl⟩
set_option maxRecDepth 20000 in
theorem lX5_86 : LKn RX5 86 m_X11_at := ⟨"PutOffParade", inD2 (i := 144) rfl⟩
set_option maxRecDepth 20000 in
theorem lX5_90 : LK RX5 90 m_X5_isWaiting := (inC2 (i := 158) rfl rfl)
set_option maxRecDepth 20000 in
theorem lX5_94 : LK RX5 94 m_X5_leansFreely := (inC2 (i := 162) rfl rfl)
set_option maxRecDepth 20000 in
theorem lX5_97 : LKn RX5 97 m_X11_bit := ⟨"PutOffParade", inD2 (i := 147) rfl⟩
set_option maxRecDepth 20000 in
theorem lX5_101 : LK RX5 101 m_X5_isReady := (inC2 (i := 154) rfl rfl)
set_option maxRecDepth 20000 in
theorem lX5_104 : LK RX5 104 m_X5_bitsIn := (inC2 (i := 233) rfl rfl)
set_option maxRecDepth 20000 in
theorem lX5_107 : LK RX5 107 m_X5_ownedBy := (inC3 (i := 84) rfl rfl)
set_option maxRecDepth 20000 in
theorem lX5_110 : LKn RX5 110 m_X11_sumOver := ⟨"PutOffParade", inD3 (i := 88) rfl⟩
set_option maxRecDepth 20000 in
theorem lX5_113 : LK RX5 113 m_X5_placeOf := (inC2 (i := 217) rfl rfl)
set_option maxRecDepth 20000 in
theorem lX5_116 : LK RX5 116 m_X5_olderThan := (inC2 (i := 234) rfl rfl)
set_option maxRecDepth 20000 in
theorem lX5_119 : LK RX5 119 m_J6_bitCount_0f7a4 := (inC2 (i := 238) rfl rfl)
set_option maxRecDepth 20000 in
theorem lX5_124 : LK RX5 124 m_X5_passesOf := (inC2 (i := 229) rfl rfl)
set_option maxRecDepth 20000 in
theorem lX5_127 : inT (.methodLink RX5 127 Lib.Math.min.name) := (inC3 (i := 137) rfl rfl)
set_option maxRecDepth 20000 in
theorem lX5_133 : LK RX5 133 m_X5_draw := (inC3 (i := 127) rfl rfl)
set_option maxRecDepth 20000 in
theorem lX5_137 : LK RX5 137 m_X5_work := (inC3 (i := 132) rfl rfl)
set_option maxRecDepth 20000 in
theorem lX5_140 : LK RX5 140 m_X5_passMonth := (inC3 (i := 143) rfl rfl)
set_option maxRecDepth 20000 in
theorem lX5_144 : LK RX5 144 m_X5_passDay := (inC3 (i := 123) rfl rfl)
set_option maxRecDepth 20000 in
theorem lX5_149 : LKn RX5 149 m_X11_has := ⟨"PutOffParade", inD3 (i := 136) rfl⟩
set_option maxRecDepth 20000 in
theorem lX5_153 : LK RX5 153 m_X5_finish := (inC3 (i := 139) rfl rfl)
set_option maxRecDepth 20000 in
theorem lX5_157 : LK RX5 157 m_X2_growthOf := (inC3 (i := 147) rfl rfl)
set_option maxRecDepth 20000 in
theorem lX5_163 : LK RX5 163 m_X5_growOlder := (inC3 (i := 151) rfl rfl)
set_option maxRecDepth 20000 in
theorem lX6_5 : LK RX6 5 m_X8_init := (inC1 (i := 59) rfl rfl)
set_option maxRecDepth 20000 in
theorem lX6_13 : LKn RX6 13 m_X5_init := ⟨"PutOffParade", inD1 (i := 110) rfl⟩
set_option maxRecDepth 20000 in
theorem lX6_39 : LK RX6 39 m_X6_readPerson := (inC4 (i := 168) rfl rfl)
set_option maxRecDepth 20000 in
theorem lX6_49 : LK RX6 49 m_X6_readDuty := (inC4 (i := 189) rfl rfl)
set_option maxRecDepth 20000 in
theorem lX6_55 : LK RX6 55 m_X9_takeWord := (inC4 (i := 179) rfl rfl)
set_option maxRecDepth 20000 in
theorem lX6_59 : LK RX6 59 m_X6_readForgotten := (inC4 (i := 209) rfl rfl)
set_option maxRecDepth 20000 in
theorem lX6_62 : LK RX6 62 m_X6_readSetting := (inC4 (i := 215) rfl rfl)
set_option maxRecDepth 20000 in
theorem lX6_65 : LK RX6 65 m_X9_next := (inC4 (i := 172) rfl rfl)
set_option maxRecDepth 20000 in
theorem lX6_71 : LK RX6 71 m_X6_readNumberOf := (inC4 (i := 175) rfl rfl)
set_option maxRecDepth 20000 in
theorem lX6_78 : LK RX6 78 m_X5_addPerson := (inC4 (i := 183) rfl rfl)
set_option maxRecDepth 20000 in
theorem lX6_97 : LK RX6 97 m_X5_addDuty := (inC4 (i := 203) rfl rfl)
set_option maxRecDepth 20000 in
theorem lX6_107 : LK RX6 107 m_X5_isWaiting := (inC4 (i := 213) rfl rfl)
set_option maxRecDepth 20000 in
theorem lX6_115 : LKn RX6 115 m_X11_setAt := ⟨"PutOffParade", inD4 (i := 214) rfl⟩
set_option maxRecDepth 20000 in
theorem lX6_149 : LK RX6 149 m_X9_takeNumber := (inC4 (i := 180) rfl rfl)
set_option maxRecDepth 20000 in
theorem lX7_3 : inT (.methodLink RX7 3 Lib.objectInit) := (inC1 (i := 43) rfl rfl)
set_option maxRecDepth 20000 in
theorem lX8_3 : inT (.methodLink RX8 3 Lib.objectInit) := (inC1 (i := 62) rfl rfl)
set_option maxRecDepth 20000 in
theorem lX8_11 : LKn RX8 11 m_X9_init := ⟨"PutOffParade", inD1 (i := 65) rfl⟩
set_option maxRecDepth 20000 in
theorem lX8_22 : LK RX8 22 m_X9_scan := (inC3 (i := 215) rfl rfl)
set_option maxRecDepth 20000 in
theorem lX8_26 : LK RX8 26 m_X9_isEnd := (inC4 (i := 63) rfl rfl)
set_option maxRecDepth 20000 in
theorem lX8_36 : LK RX8 36 m_X9_takeSign := (inC4 (i := 229) rfl rfl)
set_option maxRecDepth 20000 in
theorem lX9_3 : inT (.methodLink RX9 3 Lib.objectInit) := (inC1 (i := 68) rfl rfl)
set_option maxRecDepth 20000 in
theorem lX9_33 : LK RX9 33 m_X7_byteAt := (inC3 (i := 219) rfl rfl)
set_option maxRecDepth 20000 in
theorem lX9_37 : LK RX9 37 m_X9_kindOf := (inC3 (i := 223) rfl rfl)
set_option maxRecDepth 20000 in
theorem lX9_40 : LK RX9 40 m_X9_open := (inC3 (i := 226) rfl rfl)
set_option maxRecDepth 20000 in
theorem lX9_44 : LKn RX9 44 m_X11_setAt := ⟨"PutOffParade", inD3 (i := 230) rfl⟩
set_option maxRecDepth 20000 in
theorem lX9_48 : LK RX9 48 m_X9_valueOf := (inC3 (i := 231) rfl rfl)
set_option maxRecDepth 20000 in
theorem lX9_55 : LK RX9 55 m_X9_next := (inC4 (i := 58) rfl rfl)
set_option maxRecDepth 20000 in
theorem lX9_58 : LKn RX9 58 m_X11_at := ⟨"PutOffParade", inD3 (i := 235) rfl⟩
set_option maxRecDepth 20000 in
theorem lX9_62 : LK RX9 62 m_X9_wordOf := (inC3 (i := 236) rfl rfl)
set_option maxRecDepth 20000 in
theorem lX9_65 : LK RX9 65 m_X9_numberOf := (inC4 (i := 54) rfl rfl)
set_option maxRecDepth 20000 in
theorem lX9_78 : LK RX9 78 m_X9_isText := (inC4 (i := 2) rfl rfl)
set_option maxRecDepth 20000 in
theorem lX9_82 : LK RX9 82 m_J0_length_8abf5 := (inC4 (i := 6) rfl rfl)
set_option maxRecDepth 20000 in
theorem lX9_87 : LK RX9 87 m_J0_charAt_5068e := (inC4 (i := 16) rfl rfl)
set_option maxRecDepth 20000 in
theorem lX9_91 : inT (.methodLink RX9 91 Lib.Math.min.name) := (inC4 (i := 62) rfl rfl)
set_option maxRecDepth 20000 in
theorem lX9_110 : LK RX9 110 m_X9_isSign := (inC4 (i := 141) rfl rfl)
set_option maxRecDepth 20000 in
set_option maxRecDepth 20000 in
set_option maxRecDepth 20000 in
set_option maxRecDepth 20000 in
set_option maxRecDepth 20000 in
set_option maxRecDepth 20000 in
set_option maxRecDepth 20000 in
set_option maxRecDepth 20000 in
set_option maxRecDepth 20000 in
set_option maxRecDepth 20000 in
set_option maxRecDepth 20000 in
set_option maxRecDepth 20000 in
set_option maxRecDepth 20000 in
set_option maxRecDepth 20000 in
set_option maxRecDepth 20000 in
set_option maxRecDepth 20000 in
set_option maxRecDepth 20000 in
set_option maxRecDepth 20000 in
set_option maxRecDepth 20000 in
set_option maxRecDepth 20000 in
set_option maxRecDepth 20000 in
set_option maxRecDepth 20000 in
set_option maxRecDepth 20000 in
set_option maxRecDepth 20000 in
set_option maxRecDepth 20000 in
set_option maxRecDepth 20000 in
set_option maxRecDepth 20000 in
set_option maxRecDepth 20000 in
set_option maxRecDepth 20000 in
set_option maxRecDepth 20000 in
set_option maxRecDepth 20000 in
set_option maxRecDepth 20000 in
set_option maxRecDepth 20000 in
set_option maxRecDepth 20000 in
set_option maxRecDepth 20000 in
set_option maxRecDepth 20000 in
set_option maxRecDepth 20000 in
set_option maxRecDepth 20000 in
set_option maxRecDepth 20000 in
set_option maxRecDepth 20000 in
set_option maxRecDepth 20000 in
set_option maxRecDepth 20000 in
set_option maxRecDepth 20000 in
set_option maxRecDepth 20000 in
set_option maxRecDepth 20000 in
set_option maxRecDepth 20000 in
set_option maxRecDepth 20000 in
set_option maxRecDepth 20000 in
set_option maxRecDepth 20000 in
set_option maxRecDepth 20000 in
set_option maxRecDepth 20000 in
set_option maxRecDepth 20000 in
set_option maxRecDepth 20000 in
set_option maxRecDepth 20000 in
set_option maxRecDepth 20000 in
set_option maxRecDepth 20000 in
set_option maxRecDepth 20000 in
set_option maxRecDepth 20000 in
set_option maxRecDepth 20000 in
set_option maxRecDepth 20000 in
set_option maxRecDepth 20000 in
set_option maxRecDepth 20000 in
set_option maxRecDepth 20000 in
set_option maxRecDepth 20000 in
set_option maxRecDepth 20000 in
set_option maxRecDepth 20000 in
set_option maxRecDepth 20000 in
set_option maxRecDepth 20000 in
set_option maxRecDepth 20000 in
set_option maxRecDepth 20000 in
set_option maxRecDepth 20000 in
set_option maxRecDepth 20000 in
set_option maxRecDepth 20000 in
set_option maxRecDepth 20000 in
set_option maxRecDepth 20000 in
set_option maxRecDepth 20000 in
set_option maxRecDepth 20000 in
set_option maxRecDepth 20000 in
set_option maxRecDepth 20000 in
set_option maxRecDepth 20000 in
set_option maxRecDepth 20000 in
set_option maxRecDepth 20000 in
set_option maxRecDepth 20000 in
set_option maxRecDepth 20000 in
set_option maxRecDepth 20000 in
set_option maxRecDepth 20000 in
set_option maxRecDepth 20000 in
set_option maxRecDepth 20000 in
set_option maxRecDepth 20000 in
set_option maxRecDepth 20000 in
set_option maxRecDepth 20000 in
set_option maxRecDepth 20000 in
set_option maxRecDepth 20000 in
set_option maxRecDepth 20000 in
set_option maxRecDepth 20000 in
set_option maxRecDepth 20000 in
set_option maxRecDepth 20000 in
set_option maxRecDepth 20000 in
set_option maxRecDepth 20000 in
set_option maxRecDepth 20000 in
set_option maxRecDepth 20000 in
set_option maxRecDepth 20000 in
set_option maxRecDepth 20000 in
set_option maxRecDepth 20000 in
set_option maxRecDepth 20000 in
set_option maxRecDepth 20000 in
set_option maxRecDepth 20000 in
set_option maxRecDepth 20000 in
set_option maxRecDepth 20000 in
set_option maxRecDepth 20000 in
set_option maxRecDepth 20000 in
set_option maxRecDepth 20000 in
set_option maxRecDepth 20000 in
set_option maxRecDepth 20000 in
set_option maxRecDepth 20000 in
set_option maxRecDepth 20000 in
set_option maxRecDepth 20000 in
set_option maxRecDepth 20000 in
set_option maxRecDepth 20000 in
set_option maxRecDepth 20000 in
set_option maxRecDepth 20000 in
set_option maxRecDepth 20000 in
set_option maxRecDepth 20000 in
set_option maxRecDepth 20000 in
set_option maxRecDepth 20000 in
set_option maxRecDepth 20000 in
set_option maxRecDepth 20000 in
set_option maxRecDepth 20000 in
set_option maxRecDepth 20000 in
set_option maxRecDepth 20000 in
set_option maxRecDepth 20000 in
set_option maxRecDepth 20000 in
set_option maxRecDepth 20000 in
set_option maxRecDepth 20000 in
set_option maxRecDepth 20000 in
set_option maxRecDepth 20000 in
set_option maxRecDepth 20000 in
set_option maxRecDepth 20000 in
set_option maxRecDepth 20000 in
set_option maxRecDepth 20000 in
set_option maxRecDepth 20000 in
set_option maxRecDepth 20000 in
set_option maxRecDepth 20000 in
set_option maxRecDepth 20000 in
set_option maxRecDepth 20000 in
set_option maxRecDepth 20000 in
set_option maxRecDepth 20000 in
set_option maxRecDepth 20000 in
set_option maxRecDepth 20000 in
set_option maxRecDepth 20000 in
set_option maxRecDepth 20000 in
set_option maxRecDepth 20000 in
set_option maxRecDepth 20000 in
set_option maxRecDepth 20000 in
set_option maxRecDepth 20000 in
theorem lX12_7 : inT (.methodLink RX12 7 Lib.objectInit) := (inC7 (i := 34) rfl rfl)
set_option maxRecDepth 20000 in
theorem lX12_56 : LK RX12 56 m_X12_personAt := (inC7 (i := 178) rfl rfl)
set_option maxRecDepth 20000 in
theorem lX12_60 : LK RX12 60 m_X12_at := (inC7 (i := 199) rfl rfl)
set_option maxRecDepth 20000 in
theorem lX12_63 : LK RX12 63 m_X12_of := (inC7 (i := 211) rfl rfl)
set_option maxRecDepth 20000 in
theorem lX12_66 : LK RX12 66 m_X12_people := (inC7 (i := 164) rfl rfl)
set_option maxRecDepth 20000 in
theorem lX12_70 : LK RX12 70 m_X12_in := (inC8 (i := 92) rfl rfl)
set_option maxRecDepth 20000 in
theorem lX12_74 : LK RX12 74 m_X12_duties := (inC7 (i := 186) rfl rfl)
set_option maxRecDepth 20000 in
theorem lX12_87 : LK RX12 87 m_X12_isAt := (inC7 (i := 137) rfl rfl)
set_option maxRecDepth 20000 in
theorem lX12_94 : LK RX12 94 m_X12_blanks := (inC7 (i := 133) rfl rfl)
set_option maxRecDepth 20000 in
theorem lX12_97 : LK RX12 97 m_J0_length_8abf5 := (inC7 (i := 158) rfl rfl)
set_option maxRecDepth 20000 in
theorem lX12_102 : LK RX12 102 m_J0_charAt_5068e := (inC7 (i := 159) rfl rfl)
set_option maxRecDepth 20000 in
theorem lX12_106 : LK RX12 106 m_X12_letters := (inC7 (i := 145) rfl rfl)
set_option maxRecDepth 20000 in
theorem lX12_109 : LK RX12 109 m_X12_isWord := (inC7 (i := 154) rfl rfl)
set_option maxRecDepth 20000 in
theorem lX12_113 : LK RX12 113 m_X12_number := (inC7 (i := 173) rfl rfl)
set_option maxRecDepth 20000 in
theorem lX12_117 : LK RX12 117 m_X12_numberBehind := (inC7 (i := 169) rfl rfl)
set_option maxRecDepth 20000 in
theorem lX12_128 : LK RX12 128 m_X12_passes := (inC7 (i := 193) rfl rfl)
set_option maxRecDepth 20000 in
theorem lX12_135 : LK RX12 135 m_X12_isWaiting := (inC7 (i := 207) rfl rfl)
set_option maxRecDepth 20000 in
theorem lX12_141 : LK RX12 141 m_X12_readPerson := (inC7 (i := 160) rfl rfl)
set_option maxRecDepth 20000 in
theorem lX12_147 : LK RX12 147 m_X12_readDuty := (inC7 (i := 182) rfl rfl)
set_option maxRecDepth 20000 in
theorem lX12_152 : LK RX12 152 m_X12_readForgotten := (inC7 (i := 203) rfl rfl)
set_option maxRecDepth 20000 in
theorem lX12_157 : LK RX12 157 m_X12_readNumber := (inC7 (i := 216) rfl rfl)
set_option maxRecDepth 20000 in
theorem lX12_177 : LK RX12 177 m_X12_wordOfPart := (inC8 (i := 27) rfl rfl)
set_option maxRecDepth 20000 in
theorem lX12_180 : LK RX12 180 m_X12_emits := (inC8 (i := 9) rfl rfl)
set_option maxRecDepth 20000 in
theorem lX12_184 : LK RX12 184 m_X12_readPart := (inC8 (i := 23) rfl rfl)
set_option maxRecDepth 20000 in
theorem lX12_187 : LK RX12 187 m_X12_sign := (inC8 (i := 4) rfl rfl)
set_option maxRecDepth 20000 in
theorem lX12_197 : LK RX12 197 m_X12_readCond := (inC7 (i := 232) rfl rfl)
set_option maxRecDepth 20000 in
theorem lX12_202 : LK RX12 202 m_X12_readAtom := (inC8 (i := 0) rfl rfl)
set_option maxRecDepth 20000 in
theorem lX12_205 : LK RX12 205 m_X12_readTag := (inC8 (i := 13) rfl rfl)
set_option maxRecDepth 20000 in
theorem lX12_208 : LK RX12 208 m_X12_readSum := (inC8 (i := 19) rfl rfl)
set_option maxRecDepth 20000 in
theorem lX12_213 : LK RX12 213 m_X12_readAllOf := (inC7 (i := 236) rfl rfl)
set_option maxRecDepth 20000 in
theorem lX12_226 : LK RX12 226 m_X12_readStreetLine := (inC7 (i := 149) rfl rfl)
set_option maxRecDepth 20000 in
theorem lX12_229 : LK RX12 229 m_X12_readLawLine := (inC7 (i := 224) rfl rfl)
set_option maxRecDepth 20000 in
theorem lX12_232 : LK RX12 232 m_X12_uses := (inC7 (i := 129) rfl rfl)
set_option maxRecDepth 20000 in
theorem lX12_235 : LK RX12 235 m_X12_readLine := (inC7 (i := 141) rfl rfl)
set_option maxRecDepth 20000 in
theorem lX12_239 : LK RX12 239 m_X12_readAll := (inC7 (i := 125) rfl rfl)
set_option maxRecDepth 20000 in
theorem lX12_243 : LK RX12 243 m_X12_throwsIf := (inC8 (i := 36) rfl rfl)
set_option maxRecDepth 20000 in
theorem lX12_246 : LK RX12 246 m_X12_isDone := (inC8 (i := 76) rfl rfl)
set_option maxRecDepth 20000 in
theorem lX12_249 : LK RX12 249 m_X12_leansWell := (inC8 (i := 72) rfl rfl)
set_option maxRecDepth 20000 in
theorem lX12_252 : LK RX12 252 m_X12_ofPerson := (inC8 (i := 161) rfl rfl)
set_option maxRecDepth 20000 in
theorem lX12_255 : LK RX12 255 m_X12_factOf := (inC8 (i := 188) rfl rfl)
set_option maxRecDepth 20000 in
theorem lX12_259 : LK RX12 259 m_X12_holdsLine := (inC8 (i := 184) rfl rfl)
set_option maxRecDepth 20000 in
theorem lX12_262 : LK RX12 262 m_X12_sumOf := (inC8 (i := 180) rfl rfl)
set_option maxRecDepth 20000 in
theorem lX12_265 : inT (.methodLink RX12 265 Lib.Math.max.name) := (inC8 (i := 192) rfl rfl)
set_option maxRecDepth 20000 in
theorem lX12_270 : LK RX12 270 m_X12_goesAhead := (inC8 (i := 52) rfl rfl)
set_option maxRecDepth 20000 in
theorem lX12_273 : LK RX12 273 m_X12_isReady := (inC8 (i := 68) rfl rfl)
set_option maxRecDepth 20000 in
theorem lX12_276 : LK RX12 276 m_X12_passesBy := (inC8 (i := 80) rfl rfl)
set_option maxRecDepth 20000 in
theorem lX12_280 : LK RX12 280 m_X12_canBeCalled := (inC8 (i := 64) rfl rfl)
set_option maxRecDepth 20000 in
theorem lX12_283 : LK RX12 283 m_X12_placeOf := (inC8 (i := 48) rfl rfl)
set_option maxRecDepth 20000 in
theorem lX12_286 : LK RX12 286 m_X12_canOnes := (inC8 (i := 60) rfl rfl)
set_option maxRecDepth 20000 in
theorem lX12_289 : LK RX12 289 m_X12_noDuty := (inC8 (i := 88) rfl rfl)
set_option maxRecDepth 20000 in
theorem lX12_292 : LK RX12 292 m_X12_noKerb := (inC8 (i := 95) rfl rfl)
set_option maxRecDepth 20000 in
theorem lX12_295 : inT (.methodLink RX12 295 Lib.Math.min.name) := (inC8 (i := 109) rfl rfl)
set_option maxRecDepth 20000 in
theorem lX12_298 : LK RX12 298 m_X12_noHour := (inC8 (i := 102) rfl rfl)
set_option maxRecDepth 20000 in
theorem lX12_301 : LK RX12 301 m_X12_whereAt := (inC8 (i := 105) rfl rfl)
set_option maxRecDepth 20000 in
theorem lX12_304 : LK RX12 304 m_X12_has := (inC8 (i := 123) rfl rfl)
set_option maxRecDepth 20000 in
theorem lX12_307 : inT (.methodLink RX12 307 Lib.Math.abs.name) := (inC8 (i := 126) rfl rfl)
set_option maxRecDepth 20000 in
theorem lX12_310 : LK RX12 310 m_J6_bitCount_0f7a4 := (inC8 (i := 118) rfl rfl)
set_option maxRecDepth 20000 in
theorem lX12_315 : LK RX12 315 m_X12_canAll := (inC8 (i := 119) rfl rfl)
set_option maxRecDepth 20000 in
theorem lX12_318 : LK RX12 318 m_X12_shamesBy := (inC8 (i := 176) rfl rfl)
set_option maxRecDepth 20000 in
theorem lX12_321 : LK RX12 321 m_X12_ownedBy := (inC8 (i := 137) rfl rfl)
set_option maxRecDepth 20000 in
theorem lX12_324 : LK RX12 324 m_X12_ofState := (inC8 (i := 149) rfl rfl)
set_option maxRecDepth 20000 in
theorem lX12_327 : LK RX12 327 m_X12_waitingOf := (inC8 (i := 145) rfl rfl)
set_option maxRecDepth 20000 in
theorem lX12_330 : LK RX12 330 m_X12_hoursOf := (inC8 (i := 153) rfl rfl)
set_option maxRecDepth 20000 in
theorem lX12_333 : LK RX12 333 m_X12_loadOf := (inC8 (i := 141) rfl rfl)
set_option maxRecDepth 20000 in
theorem lX12_336 : LK RX12 336 m_X12_daysFor := (inC8 (i := 165) rfl rfl)
set_option maxRecDepth 20000 in
theorem lX12_339 : LK RX12 339 m_X12_shameOf := (inC8 (i := 172) rfl rfl)
set_option maxRecDepth 20000 in
theorem lX12_342 : LK RX12 342 m_X12_noPerson := (inC8 (i := 133) rfl rfl)
set_option maxRecDepth 20000 in
theorem lX12_345 : LK RX12 345 m_X12_needsOf := (inC8 (i := 157) rfl rfl)
set_option maxRecDepth 20000 in
theorem lX12_348 : LK RX12 348 m_X12_shareOf := (inC8 (i := 168) rfl rfl)
set_option maxRecDepth 20000 in
theorem lX12_351 : LK RX12 351 m_X12_growsBy := (inC8 (i := 197) rfl rfl)
set_option maxRecDepth 20000 in
theorem lX12_354 : LK RX12 354 m_X12_isNow := (inC8 (i := 213) rfl rfl)
set_option maxRecDepth 20000 in
theorem lX12_357 : LK RX12 357 m_X12_remembers := (inC8 (i := 205) rfl rfl)
set_option maxRecDepth 20000 in
theorem lX12_360 : LK RX12 360 m_X12_finishes := (inC8 (i := 209) rfl rfl)
set_option maxRecDepth 20000 in
theorem lX12_364 : LK RX12 364 m_X12_isForgotten := (inC8 (i := 229) rfl rfl)
set_option maxRecDepth 20000 in
theorem lX12_367 : LK RX12 367 m_X12_hasTool := (inC9 (i := 26) rfl rfl)
set_option maxRecDepth 20000 in
theorem lX12_370 : LK RX12 370 m_X12_tells := (inC9 (i := 38) rfl rfl)
set_option maxRecDepth 20000 in
theorem lX12_373 : LK RX12 373 m_X12_drawn := (inC9 (i := 17) rfl rfl)
set_option maxRecDepth 20000 in
theorem lX12_376 : LK RX12 376 m_X12_works := (inC9 (i := 22) rfl rfl)
set_option maxRecDepth 20000 in
theorem lX12_379 : LK RX12 379 m_X12_growsOlder := (inC9 (i := 30) rfl rfl)
set_option maxRecDepth 20000 in
theorem lX12_382 : LK RX12 382 m_X12_goesBy := (inC9 (i := 34) rfl rfl)
set_option maxRecDepth 20000 in
theorem lX12_385 : LK RX12 385 m_X12_oneDay := (inC9 (i := 13) rfl rfl)
set_option maxRecDepth 20000 in
theorem lX12_388 : LK RX12 388 m_X12_goesOn := (inC9 (i := 9) rfl rfl)
set_option maxRecDepth 20000 in
theorem lX12_392 : LK RX12 392 m_X12_noDays := (inC9 (i := 46) rfl rfl)
set_option maxRecDepth 20000 in
theorem lX12_395 : LK RX12 395 m_X12_keepsAll := (inC9 (i := 49) rfl rfl)
set_option maxRecDepth 20000 in
theorem lX12_398 : LK RX12 398 m_X12_bringsBack := (inC9 (i := 53) rfl rfl)
set_option maxRecDepth 20000 in
theorem lX12_402 : LK RX12 402 m_X12_allDuties := (inC9 (i := 77) rfl rfl)
set_option maxRecDepth 20000 in
theorem lX12_405 : LK RX12 405 m_X12_overIn := (inC9 (i := 61) rfl rfl)
set_option maxRecDepth 20000 in
theorem lX12_408 : LK RX12 408 m_X12_orNone := (inC9 (i := 66) rfl rfl)
set_option maxRecDepth 20000 in
theorem lX12_411 : LK RX12 411 m_X12_allOver := (inC9 (i := 73) rfl rfl)
set_option maxRecDepth 20000 in
theorem lX12_414 : LK RX12 414 m_X12_overWith := (inC9 (i := 85) rfl rfl)
set_option maxRecDepth 20000 in
theorem lX12_417 : LK RX12 417 m_X12_beforeOf := (inC9 (i := 105) rfl rfl)
set_option maxRecDepth 20000 in
theorem lX12_420 : LK RX12 420 m_X12_ringOnes := (inC9 (i := 101) rfl rfl)
set_option maxRecDepth 20000 in
theorem lX12_423 : LK RX12 423 m_X12_chainOf := (inC9 (i := 129) rfl rfl)
set_option maxRecDepth 20000 in
theorem lX12_426 : LK RX12 426 m_X12_soonOf := (inC9 (i := 125) rfl rfl)
set_option maxRecDepth 20000 in
theorem lX12_429 : LK RX12 429 m_X12_olderOnes := (inC9 (i := 141) rfl rfl)
set_option maxRecDepth 20000 in
theorem lX12_432 : LK RX12 432 m_X12_leanWithin := (inC9 (i := 157) rfl rfl)
set_option maxRecDepth 20000 in
theorem lX12_435 : LK RX12 435 m_X12_toDo := (inC9 (i := 153) rfl rfl)
set_option maxRecDepth 20000 in
theorem lX12_438 : LK RX12 438 m_X12_isTold := (inC9 (i := 165) rfl rfl)
set_option maxRecDepth 20000 in
theorem lX12_441 : LK RX12 441 m_X12_allThatFit := (inC9 (i := 169) rfl rfl)
set_option maxRecDepth 20000 in
theorem lX12_444 : LK RX12 444 m_X12_isGap := (inC9 (i := 181) rfl rfl)
set_option maxRecDepth 20000 in
theorem lX12_447 : LK RX12 447 m_X12_serves := (inC9 (i := 197) rfl rfl)
set_option maxRecDepth 20000 in
theorem lX12_451 : LK RX12 451 m_X12_hasBy := (inC9 (i := 205) rfl rfl)
set_option maxRecDepth 20000 in
theorem lX12_458 : LK RX12 458 m_X12_oddsOf := (inC9 (i := 229) rfl rfl)
set_option maxRecDepth 20000 in
theorem lX12_461 : LK RX12 461 m_X12_ofLog := (inC10 (i := 11) rfl rfl)
set_option maxRecDepth 20000 in
theorem lX12_464 : LK RX12 464 m_X12_readyOnes := (inC10 (i := 27) rfl rfl)
set_option maxRecDepth 20000 in
theorem lJ0_335 : LK RJ0 335 m_J0_coder_7d493 := (inC4 (i := 10) rfl rfl)
set_option maxRecDepth 20000 in
theorem lJ0_492 : LK RJ0 492 m_J0_isLatin1_aae02 := (inC4 (i := 20) rfl rfl)
set_option maxRecDepth 20000 in
theorem lJ0_495 : LK RJ0 495 m_J1_charAt_3b067 := (inC4 (i := 24) rfl rfl)
set_option maxRecDepth 20000 in
theorem lJ0_498 : LK RJ0 498 m_J2_charAt_3b067 := (inC4 (i := 35) rfl rfl)
set_option maxRecDepth 20000 in
theorem lJ0_1059 : LK RJ0 1059 m_J3_checkIndex_8e157 := (inC4 (i := 32) rfl rfl)
set_option maxRecDepth 20000 in
theorem lJ1_9 : LK RJ1 9 m_J0_checkIndex_df160 := (inC4 (i := 27) rfl rfl)
set_option maxRecDepth 20000 in
theorem lJ2_48 : LK RJ2 48 m_J2_length_9d52b := (inC4 (i := 41) rfl rfl)
set_option maxRecDepth 20000 in
theorem lJ2_67 : LK RJ2 67 m_J2_checkIndex_2214a := (inC4 (i := 38) rfl rfl)
set_option maxRecDepth 20000 in
theorem lJ2_71 : LK RJ2 71 m_J2_getChar_3b067 := (inC4 (i := 45) rfl rfl)
set_option maxRecDepth 20000 in
theorem lJ2_414 : LK RJ2 414 m_J0_checkIndex_df160 := (inC4 (i := 44) rfl rfl)




theorem lL_7 : LK RL 7 m_X11_street := (inC3 (i := 205) rfl rfl)
theorem lL_17 : LK RL 17 m_X11_law := (inC5 (i := 73) rfl rfl)
theorem lL_20 : LK RL 20 m_X11_person := (inC5 (i := 89) rfl rfl)
theorem lL_28 : LK RL 28 m_X11_duty := (inC5 (i := 138) rfl rfl)
theorem lL_31 : LK RL 31 m_X11_call := (inC5 (i := 154) rfl rfl)
theorem lL_37 : LK RL 37 m_X11_put := (inC5 (i := 181) rfl rfl)
theorem lL_40 : LK RL 40 m_X11_forget := (inC5 (i := 193) rfl rfl)
theorem lL_43 : LK RL 43 m_X11_recall := (inC5 (i := 200) rfl rfl)
theorem lL_46 : LK RL 46 m_X11_hand := (inC5 (i := 207) rfl rfl)
theorem lL_49 : LK RL 49 m_X11_lean := (inC5 (i := 217) rfl rfl)
theorem lL_52 : LK RL 52 m_X11_free := (inC5 (i := 224) rfl rfl)
theorem lL_55 : LK RL 55 m_X11_days := (inC5 (i := 234) rfl rfl)
theorem lL_58 : LK RL 58 m_X11_greets := (inC6 (i := 13) rfl rfl)
theorem lL_61 : LK RL 61 m_X11_where := (inC6 (i := 23) rfl rfl)
theorem lL_64 : LK RL 64 m_X11_crowd := (inC6 (i := 34) rfl rfl)
theorem lL_68 : LK RL 68 m_X11_does := (inC6 (i := 41) rfl rfl)
theorem lL_72 : LK RL 72 m_X11_soon := (inC6 (i := 59) rfl rfl)
theorem lL_75 : LK RL 75 m_X11_before := (inC6 (i := 66) rfl rfl)
theorem lL_78 : LK RL 78 m_X11_after := (inC6 (i := 74) rfl rfl)
theorem lL_81 : LK RL 81 m_X11_depth := (inC6 (i := 84) rfl rfl)
theorem lL_84 : LK RL 84 m_X11_young := (inC6 (i := 91) rfl rfl)
theorem lL_87 : LK RL 87 m_X11_older := (inC6 (i := 102) rfl rfl)
theorem lL_90 : LK RL 90 m_X11_whose := (inC6 (i := 109) rfl rfl)
theorem lL_93 : LK RL 93 m_X11_ask := (inC6 (i := 129) rfl rfl)
theorem lL_96 : LK RL 96 m_X11_swap := (inC6 (i := 140) rfl rfl)
theorem lL_99 : LK RL 99 m_X11_rests := (inC6 (i := 156) rfl rfl)
theorem lL_102 : LK RL 102 m_X11_odds := (inC6 (i := 172) rfl rfl)
theorem lL_105 : LK RL 105 m_X11_spare := (inC6 (i := 186) rfl rfl)
theorem lL_108 : LK RL 108 m_X11_done := (inC6 (i := 197) rfl rfl)
theorem lL_111 : LK RL 111 m_X11_sick := (inC6 (i := 208) rfl rfl)
theorem lL_114 : LK RL 114 m_X11_ahead := (inC6 (i := 215) rfl rfl)
theorem lL_117 : LK RL 117 m_X11_trial := (inC6 (i := 222) rfl rfl)
theorem lL_120 : LK RL 120 m_X11_span := (inC6 (i := 233) rfl rfl)
theorem lL_123 : LK RL 123 m_X11_led := (inC7 (i := 0) rfl rfl)
theorem lL_126 : LK RL 126 m_X11_log := (inC7 (i := 20) rfl rfl)
theorem lL_129 : LK RL 129 m_X11_init := (inC1 (i := 32) rfl rfl)
theorem lL_132 : LK RL 132 m_X12_init := (inC7 (i := 31) rfl rfl)
theorem lL_133 : LK RL 133 m_X11_feed := (inC2 (i := 120) rfl rfl)
theorem lL_137 : LK RL 137 m_X12_feed := (inC7 (i := 109) rfl rfl)
theorem lL_138 : LK RL 138 m_X11_end := (inC2 (i := 128) rfl rfl)
theorem lL_142 : LK RL 142 m_X12_end := (inC7 (i := 113) rfl rfl)
theorem lL_143 : LK RL 143 m_L_street := (inC3 (i := 200) rfl rfl)
theorem lL_148 : LK RL 148 m_X12_street := (inC7 (i := 121) rfl rfl)
theorem lL_149 : LK RL 149 m_L_law := (inC5 (i := 70) rfl rfl)
theorem lL_151 : LK RL 151 m_X12_law := (inC8 (i := 40) rfl rfl)
theorem lL_152 : LK RL 152 m_X11_fault := (inC2 (i := 132) rfl rfl)
theorem lL_155 : LK RL 155 m_X12_fault := (inC7 (i := 117) rfl rfl)
theorem lL_156 : LK RL 156 m_L_person := (inC5 (i := 84) rfl rfl)
theorem lL_159 : LK RL 159 m_X12_person := (inC8 (i := 129) rfl rfl)
theorem lL_160 : LK RL 160 m_L_duty := (inC5 (i := 135) rfl rfl)
theorem lL_162 : LK RL 162 m_X12_duty := (inC8 (i := 193) rfl rfl)
theorem lL_163 : LK RL 163 m_L_call := (inC5 (i := 150) rfl rfl)
theorem lL_166 : LK RL 166 m_X12_call := (inC8 (i := 201) rfl rfl)
theorem lL_167 : LK RL 167 m_L_put := (inC5 (i := 178) rfl rfl)
theorem lL_169 : LK RL 169 m_X12_put := (inC8 (i := 217) rfl rfl)
theorem lL_170 : LK RL 170 m_L_forget := (inC5 (i := 190) rfl rfl)
theorem lL_172 : LK RL 172 m_X12_forget := (inC8 (i := 221) rfl rfl)
theorem lL_173 : LK RL 173 m_L_recall := (inC5 (i := 197) rfl rfl)
theorem lL_175 : LK RL 175 m_X12_recall := (inC8 (i := 225) rfl rfl)
theorem lL_176 : LK RL 176 m_L_hand := (inC5 (i := 204) rfl rfl)
theorem lL_178 : LK RL 178 m_X12_hand := (inC8 (i := 233) rfl rfl)
theorem lL_179 : LK RL 179 m_L_lean := (inC5 (i := 214) rfl rfl)
theorem lL_181 : LK RL 181 m_X12_lean := (inC8 (i := 237) rfl rfl)
theorem lL_182 : LK RL 182 m_X12_thrown := (inC7 (i := 25) rfl rfl)
theorem lL_185 : LK RL 185 m_L_free := (inC5 (i := 221) rfl rfl)
theorem lL_187 : LK RL 187 m_X12_free := (inC9 (i := 1) rfl rfl)
theorem lL_188 : LK RL 188 m_L_days := (inC5 (i := 231) rfl rfl)
theorem lL_190 : LK RL 190 m_X12_days := (inC9 (i := 5) rfl rfl)
theorem lL_191 : LK RL 191 m_X11_parade := (inC2 (i := 209) rfl rfl)
theorem lL_194 : LK RL 194 m_X12_parade := (inC8 (i := 44) rfl rfl)
theorem lL_195 : LK RL 195 m_X11_can := (inC2 (i := 221) rfl rfl)
theorem lL_198 : LK RL 198 m_X12_can := (inC8 (i := 56) rfl rfl)
theorem lL_199 : LK RL 199 m_L_greets := (inC6 (i := 10) rfl rfl)
theorem lL_201 : LK RL 201 m_X12_greets := (inC8 (i := 84) rfl rfl)
theorem lL_202 : LK RL 202 m_L_where := (inC6 (i := 20) rfl rfl)
theorem lL_204 : LK RL 204 m_X12_where := (inC8 (i := 98) rfl rfl)
theorem lL_205 : LK RL 205 m_L_crowd := (inC6 (i := 31) rfl rfl)
theorem lL_208 : LK RL 208 m_X12_crowd := (inC8 (i := 110) rfl rfl)
theorem lL_209 : LK RL 209 m_X11_most := (inC3 (i := 4) rfl rfl)
theorem lL_212 : LK RL 212 m_X12_most := (inC8 (i := 114) rfl rfl)
theorem lL_213 : LK RL 213 m_L_does := (inC6 (i := 38) rfl rfl)
theorem lL_216 : LK RL 216 m_X12_does := (inC9 (i := 149) rfl rfl)
theorem lL_217 : LK RL 217 m_L_soon := (inC6 (i := 56) rfl rfl)
theorem lL_219 : LK RL 219 m_X12_soon := (inC9 (i := 121) rfl rfl)
theorem lL_220 : LK RL 220 m_X11_longest := (inC3 (i := 23) rfl rfl)
theorem lL_223 : LK RL 223 m_X12_longest := (inC9 (i := 133) rfl rfl)
theorem lL_224 : LK RL 224 m_X11_ring := (inC3 (i := 48) rfl rfl)
theorem lL_227 : LK RL 227 m_X12_ring := (inC9 (i := 97) rfl rfl)
theorem lL_228 : LK RL 228 m_L_before := (inC6 (i := 63) rfl rfl)
theorem lL_230 : LK RL 230 m_X12_before := (inC9 (i := 109) rfl rfl)
theorem lL_231 : LK RL 231 m_L_after := (inC6 (i := 71) rfl rfl)
theorem lL_233 : LK RL 233 m_X12_after := (inC9 (i := 113) rfl rfl)
theorem lL_234 : LK RL 234 m_L_depth := (inC6 (i := 81) rfl rfl)
theorem lL_236 : LK RL 236 m_X12_depth := (inC9 (i := 117) rfl rfl)
theorem lL_237 : LK RL 237 m_L_young := (inC6 (i := 88) rfl rfl)
theorem lL_239 : LK RL 239 m_X12_young := (inC9 (i := 137) rfl rfl)
theorem lL_240 : LK RL 240 m_L_older := (inC6 (i := 99) rfl rfl)
theorem lL_242 : LK RL 242 m_X12_older := (inC9 (i := 145) rfl rfl)
theorem lL_243 : LK RL 243 m_L_whose := (inC6 (i := 106) rfl rfl)
theorem lL_245 : LK RL 245 m_X12_whose := (inC9 (i := 161) rfl rfl)
theorem lL_246 : LK RL 246 m_L_ask := (inC6 (i := 126) rfl rfl)
theorem lL_248 : LK RL 248 m_X12_ask := (inC9 (i := 173) rfl rfl)
theorem lL_249 : LK RL 249 m_X11_gap := (inC3 (i := 53) rfl rfl)
theorem lL_252 : LK RL 252 m_X12_gap := (inC9 (i := 177) rfl rfl)
theorem lL_253 : LK RL 253 m_X11_lost := (inC3 (i := 64) rfl rfl)
theorem lL_256 : LK RL 256 m_X12_lost := (inC9 (i := 185) rfl rfl)
theorem lL_257 : LK RL 257 m_X11_missed := (inC3 (i := 68) rfl rfl)
theorem lL_260 : LK RL 260 m_X12_missed := (inC9 (i := 189) rfl rfl)
theorem lL_261 : LK RL 261 m_L_swap := (inC6 (i := 137) rfl rfl)
theorem lL_263 : LK RL 263 m_X12_swap := (inC9 (i := 193) rfl rfl)
theorem lL_264 : LK RL 264 m_L_rests := (inC6 (i := 153) rfl rfl)
theorem lL_266 : LK RL 266 m_X12_rests := (inC9 (i := 201) rfl rfl)
theorem lL_267 : LK RL 267 m_X11_sponsor := (inC3 (i := 72) rfl rfl)
theorem lL_270 : LK RL 270 m_X12_sponsor := (inC9 (i := 209) rfl rfl)
theorem lL_271 : LK RL 271 m_X11_idle := (inC3 (i := 76) rfl rfl)
theorem lL_274 : LK RL 274 m_X12_idle := (inC9 (i := 213) rfl rfl)
theorem lL_275 : LK RL 275 m_X11_worst := (inC3 (i := 89) rfl rfl)
theorem lL_278 : LK RL 278 m_X12_worst := (inC9 (i := 217) rfl rfl)
theorem lL_279 : LK RL 279 m_L_odds := (inC6 (i := 169) rfl rfl)
theorem lL_281 : LK RL 281 m_X12_odds := (inC9 (i := 225) rfl rfl)
theorem lL_282 : LK RL 282 m_L_spare := (inC6 (i := 183) rfl rfl)
theorem lL_284 : LK RL 284 m_X12_spare := (inC9 (i := 235) rfl rfl)
theorem lL_285 : LK RL 285 m_L_done := (inC6 (i := 194) rfl rfl)
theorem lL_287 : LK RL 287 m_X12_done := (inC9 (i := 57) rfl rfl)
theorem lL_288 : LK RL 288 m_X11_all := (inC3 (i := 102) rfl rfl)
theorem lL_291 : LK RL 291 m_X12_all := (inC9 (i := 69) rfl rfl)
theorem lL_292 : LK RL 292 m_X11_help := (inC3 (i := 155) rfl rfl)
theorem lL_295 : LK RL 295 m_X12_help := (inC9 (i := 81) rfl rfl)
theorem lL_296 : LK RL 296 m_X11_crux := (inC3 (i := 160) rfl rfl)
theorem lL_299 : LK RL 299 m_X12_crux := (inC9 (i := 89) rfl rfl)
theorem lL_300 : LK RL 300 m_L_sick := (inC6 (i := 205) rfl rfl)
theorem lL_302 : LK RL 302 m_X12_sick := (inC9 (i := 93) rfl rfl)
theorem lL_303 : LK RL 303 m_X11_alike := (inC3 (i := 94) rfl rfl)
theorem lL_306 : LK RL 306 m_X12_alike := (inC9 (i := 221) rfl rfl)
theorem lL_307 : LK RL 307 m_L_ahead := (inC6 (i := 212) rfl rfl)
theorem lL_309 : LK RL 309 m_X12_ahead := (inC9 (i := 42) rfl rfl)
theorem lL_310 : LK RL 310 m_L_trial := (inC6 (i := 219) rfl rfl)
theorem lL_312 : LK RL 312 m_X12_trial := (inC9 (i := 239) rfl rfl)
theorem lL_313 : LK RL 313 m_L_span := (inC6 (i := 230) rfl rfl)
theorem lL_315 : LK RL 315 m_X12_span := (inC10 (i := 3) rfl rfl)
theorem lL_316 : LK RL 316 m_L_led := (inC6 (i := 237) rfl rfl)
theorem lL_318 : LK RL 318 m_X12_led := (inC10 (i := 7) rfl rfl)
theorem lL_319 : LK RL 319 m_L_log := (inC7 (i := 17) rfl rfl)
theorem lL_321 : LK RL 321 m_X12_log := (inC10 (i := 15) rfl rfl)
theorem lL_322 : LK RL 322 m_X11_seed := (inC3 (i := 165) rfl rfl)
theorem lL_325 : LK RL 325 m_X12_seed := (inC10 (i := 19) rfl rfl)
theorem lL_326 : LK RL 326 m_X11_undo := (inC3 (i := 169) rfl rfl)
theorem lL_330 : LK RL 330 m_X12_undo := (inC7 (i := 105) rfl rfl)
theorem lL_331 : LK RL 331 m_X11_image := (inC3 (i := 187) rfl rfl)
theorem lL_334 : LK RL 334 m_X12_image := (inC7 (i := 97) rfl rfl)
theorem lL_335 : LK RL 335 m_X11_back := (inC3 (i := 196) rfl rfl)
theorem lL_338 : LK RL 338 m_X12_back := (inC7 (i := 101) rfl rfl)
theorem lL_339 : LK RL 339 m_X11_count := (inC2 (i := 136) rfl rfl)
theorem lL_342 : LK RL 342 m_X12_count := (inC10 (i := 23) rfl rfl)

