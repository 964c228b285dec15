section
/-! ===== the methods as their callers know them, and the calls' links, printed by program ===== -/
theorem nh_0 : ("PutOffParade$Choosing" : String) ≠ "java/lang/invoke/MethodHandle" ∧ ("PutOffParade$Choosing" : String) ≠ "java/lang/invoke/VarHandle" := ⟨by decide +kernel, by decide +kernel⟩
theorem nh_1 : ("PutOffParade$Floats" : String) ≠ "java/lang/invoke/MethodHandle" ∧ ("PutOffParade$Floats" : String) ≠ "java/lang/invoke/VarHandle" := ⟨by decide +kernel, by decide +kernel⟩
theorem nh_2 : ("PutOffParade$Law" : String) ≠ "java/lang/invoke/MethodHandle" ∧ ("PutOffParade$Law" : String) ≠ "java/lang/invoke/VarHandle" := ⟨by decide +kernel, by decide +kernel⟩
theorem nh_3 : ("PutOffParade$LawReader" : String) ≠ "java/lang/invoke/MethodHandle" ∧ ("PutOffParade$LawReader" : String) ≠ "java/lang/invoke/VarHandle" := ⟨by decide +kernel, by decide +kernel⟩
theorem nh_4 : ("PutOffParade$Leaning" : String) ≠ "java/lang/invoke/MethodHandle" ∧ ("PutOffParade$Leaning" : String) ≠ "java/lang/invoke/VarHandle" := ⟨by decide +kernel, by decide +kernel⟩
theorem nh_5 : ("PutOffParade$Street" : String) ≠ "java/lang/invoke/MethodHandle" ∧ ("PutOffParade$Street" : String) ≠ "java/lang/invoke/VarHandle" := ⟨by decide +kernel, by decide +kernel⟩
theorem nh_6 : ("PutOffParade$StreetReader" : String) ≠ "java/lang/invoke/MethodHandle" ∧ ("PutOffParade$StreetReader" : String) ≠ "java/lang/invoke/VarHandle" := ⟨by decide +kernel, by decide +kernel⟩
theorem nh_7 : ("PutOffParade$Tape" : String) ≠ "java/lang/invoke/MethodHandle" ∧ ("PutOffParade$Tape" : String) ≠ "java/lang/invoke/VarHandle" := ⟨by decide +kernel, by decide +kernel⟩
theorem nh_8 : ("PutOffParade$TextReader" : String) ≠ "java/lang/invoke/MethodHandle" ∧ ("PutOffParade$TextReader" : String) ≠ "java/lang/invoke/VarHandle" := ⟨by decide +kernel, by decide +kernel⟩
theorem nh_9 : ("PutOffParade$Tokens" : String) ≠ "java/lang/invoke/MethodHandle" ∧ ("PutOffParade$Tokens" : String) ≠ "java/lang/invoke/VarHandle" := ⟨by decide +kernel, by decide +kernel⟩
theorem nh_10 : ("PutOffParade" : String) ≠ "java/lang/invoke/MethodHandle" ∧ ("PutOffParade" : String) ≠ "java/lang/invoke/VarHandle" := ⟨by decide +kernel, by decide +kernel⟩
theorem nh_11 : ("PutOffParadeModel" : String) ≠ "java/lang/invoke/MethodHandle" ∧ ("PutOffParadeModel" : String) ≠ "java/lang/invoke/VarHandle" := ⟨by decide +kernel, by decide +kernel⟩
theorem nh_12 : ("java/lang/Integer" : String) ≠ "java/lang/invoke/MethodHandle" ∧ ("java/lang/Integer" : String) ≠ "java/lang/invoke/VarHandle" := ⟨by decide +kernel, by decide +kernel⟩
theorem nh_13 : ("java/lang/String" : String) ≠ "java/lang/invoke/MethodHandle" ∧ ("java/lang/String" : String) ≠ "java/lang/invoke/VarHandle" := ⟨by decide +kernel, by decide +kernel⟩
theorem nh_14 : ("java/lang/StringLatin1" : String) ≠ "java/lang/invoke/MethodHandle" ∧ ("java/lang/StringLatin1" : String) ≠ "java/lang/invoke/VarHandle" := ⟨by decide +kernel, by decide +kernel⟩
theorem nh_15 : ("java/lang/StringUTF16" : String) ≠ "java/lang/invoke/MethodHandle" ∧ ("java/lang/StringUTF16" : String) ≠ "java/lang/invoke/VarHandle" := ⟨by decide +kernel, by decide +kernel⟩
theorem nh_16 : ("jdk/internal/util/Preconditions" : String) ≠ "java/lang/invoke/MethodHandle" ∧ ("jdk/internal/util/Preconditions" : String) ≠ "java/lang/invoke/VarHandle" := ⟨by decide +kernel, by decide +kernel⟩
theorem nh_17 : ("PutOffParadeLaw" : String) ≠ "java/lang/invoke/MethodHandle" ∧ ("PutOffParadeLaw" : String) ≠ "java/lang/invoke/VarHandle" := ⟨by decide +kernel, by decide +kernel⟩
theorem pd_0 : (parseMethodDescriptor "()V").map (fun d => d.parameters.length) = some 0 := by decide +kernel
theorem pd_1 : (parseMethodDescriptor "(LPutOffParade$Street;)I").map (fun d => d.parameters.length) = some 1 := by decide +kernel
theorem pd_2 : (parseMethodDescriptor "(LPutOffParade$Street;I)Z").map (fun d => d.parameters.length) = some 2 := by decide +kernel
theorem pd_3 : (parseMethodDescriptor "(LPutOffParade$Street;LPutOffParade$Law;I)I").map (fun d => d.parameters.length) = some 3 := by decide +kernel
theorem pd_4 : (parseMethodDescriptor "(LPutOffParade$Street;II)I").map (fun d => d.parameters.length) = some 3 := by decide +kernel
theorem pd_5 : (parseMethodDescriptor "(II)I").map (fun d => d.parameters.length) = some 2 := by decide +kernel
theorem pd_6 : (parseMethodDescriptor "(IIII)Z").map (fun d => d.parameters.length) = some 4 := by decide +kernel
theorem pd_7 : (parseMethodDescriptor "(IIII)I").map (fun d => d.parameters.length) = some 4 := by decide +kernel
theorem pd_8 : (parseMethodDescriptor "(III)I").map (fun d => d.parameters.length) = some 3 := by decide +kernel
theorem pd_9 : (parseMethodDescriptor "(II)J").map (fun d => d.parameters.length) = some 2 := by decide +kernel
theorem pd_10 : (parseMethodDescriptor "(LPutOffParade$Floats;)V").map (fun d => d.parameters.length) = some 1 := by decide +kernel
theorem pd_11 : (parseMethodDescriptor "(IIII)V").map (fun d => d.parameters.length) = some 4 := by decide +kernel
theorem pd_12 : (parseMethodDescriptor "(I)I").map (fun d => d.parameters.length) = some 1 := by decide +kernel
theorem pd_13 : (parseMethodDescriptor "(LPutOffParade$Law;)V").map (fun d => d.parameters.length) = some 1 := by decide +kernel
theorem pd_14 : (parseMethodDescriptor "(II)V").map (fun d => d.parameters.length) = some 2 := by decide +kernel
theorem pd_15 : (parseMethodDescriptor "(I)V").map (fun d => d.parameters.length) = some 1 := by decide +kernel
theorem pd_16 : (parseMethodDescriptor "(LPutOffParade$Street;I)I").map (fun d => d.parameters.length) = some 2 := by decide +kernel
theorem pd_17 : (parseMethodDescriptor "(LPutOffParade$Street;I)V").map (fun d => d.parameters.length) = some 2 := by decide +kernel
theorem pd_18 : (parseMethodDescriptor "(I)Z").map (fun d => d.parameters.length) = some 1 := by decide +kernel
theorem pd_19 : (parseMethodDescriptor "()I").map (fun d => d.parameters.length) = some 0 := by decide +kernel
theorem pd_20 : (parseMethodDescriptor "()Z").map (fun d => d.parameters.length) = some 0 := by decide +kernel
theorem pd_21 : (parseMethodDescriptor "(LPutOffParade$Street;)V").map (fun d => d.parameters.length) = some 1 := by decide +kernel
theorem pd_22 : (parseMethodDescriptor "(IIIII)V").map (fun d => d.parameters.length) = some 5 := by decide +kernel
theorem pd_23 : (parseMethodDescriptor "(II)Z").map (fun d => d.parameters.length) = some 2 := by decide +kernel
theorem pd_24 : (parseMethodDescriptor "(LPutOffParade$Law;Z)V").map (fun d => d.parameters.length) = some 2 := by decide +kernel
theorem pd_25 : (parseMethodDescriptor "(LPutOffParade$Law;I)I").map (fun d => d.parameters.length) = some 2 := by decide +kernel
theorem pd_26 : (parseMethodDescriptor "(LPutOffParade$Law;)I").map (fun d => d.parameters.length) = some 1 := by decide +kernel
theorem pd_27 : (parseMethodDescriptor "(LPutOffParade$Word;II)I").map (fun d => d.parameters.length) = some 3 := by decide +kernel
theorem pd_28 : (parseMethodDescriptor "(LPutOffParade$Tape;)V").map (fun d => d.parameters.length) = some 1 := by decide +kernel
theorem pd_29 : (parseMethodDescriptor "(LPutOffParade$Tape;I)I").map (fun d => d.parameters.length) = some 2 := by decide +kernel
theorem pd_30 : (parseMethodDescriptor "(LPutOffParade$Tape;ILjava/lang/String;)Z").map (fun d => d.parameters.length) = some 3 := by decide +kernel
theorem pd_31 : (parseMethodDescriptor "(C)Z").map (fun d => d.parameters.length) = some 1 := by decide +kernel
theorem pd_32 : (parseMethodDescriptor "(LPutOffParade$Word;)Z").map (fun d => d.parameters.length) = some 1 := by decide +kernel
theorem pd_33 : (parseMethodDescriptor "(IIIII)I").map (fun d => d.parameters.length) = some 5 := by decide +kernel
theorem pd_34 : (parseMethodDescriptor "(IZ)I").map (fun d => d.parameters.length) = some 2 := by decide +kernel
theorem pd_35 : (parseMethodDescriptor "(III)V").map (fun d => d.parameters.length) = some 3 := by decide +kernel
theorem pd_36 : (parseMethodDescriptor "(I)LPutOffParade$Street;").map (fun d => d.parameters.length) = some 1 := by decide +kernel
theorem pd_37 : (parseMethodDescriptor "([II)I").map (fun d => d.parameters.length) = some 2 := by decide +kernel
theorem pd_38 : (parseMethodDescriptor "([III)V").map (fun d => d.parameters.length) = some 3 := by decide +kernel
theorem pd_39 : (parseMethodDescriptor "([I[I)V").map (fun d => d.parameters.length) = some 2 := by decide +kernel
theorem pd_40 : (parseMethodDescriptor "(ZI)Z").map (fun d => d.parameters.length) = some 2 := by decide +kernel
theorem pd_41 : (parseMethodDescriptor "(III)Z").map (fun d => d.parameters.length) = some 3 := by decide +kernel
theorem pd_42 : (parseMethodDescriptor "(Ljava/lang/String;)Z").map (fun d => d.parameters.length) = some 1 := by decide +kernel
theorem pd_43 : (parseMethodDescriptor "(Ljava/lang/String;II)I").map (fun d => d.parameters.length) = some 3 := by decide +kernel
theorem pd_44 : (parseMethodDescriptor "(Z)I").map (fun d => d.parameters.length) = some 1 := by decide +kernel
theorem pd_45 : (parseMethodDescriptor "(I)C").map (fun d => d.parameters.length) = some 1 := by decide +kernel
theorem pd_46 : (parseMethodDescriptor "()B").map (fun d => d.parameters.length) = some 0 := by decide +kernel
theorem pd_47 : (parseMethodDescriptor "([BI)C").map (fun d => d.parameters.length) = some 2 := by decide +kernel
theorem pd_48 : (parseMethodDescriptor "([B)I").map (fun d => d.parameters.length) = some 1 := by decide +kernel
theorem pd_49 : (parseMethodDescriptor "(I[B)V").map (fun d => d.parameters.length) = some 2 := by decide +kernel
theorem pd_50 : (parseMethodDescriptor "(IILjava/util/function/BiFunction;)I").map (fun d => d.parameters.length) = some 3 := by decide +kernel
theorem pd_51 : (parseMethodDescriptor "(LPutOffParade;[J)I").map (fun d => d.parameters.length) = some 2 := by decide +kernel
theorem pd_52 : (parseMethodDescriptor "(LPutOffParade;II[J)I").map (fun d => d.parameters.length) = some 4 := by decide +kernel
theorem pd_53 : (parseMethodDescriptor "(LPutOffParade;I[J)I").map (fun d => d.parameters.length) = some 3 := by decide +kernel
theorem pd_54 : (parseMethodDescriptor "(LPutOffParade;III[J)I").map (fun d => d.parameters.length) = some 5 := by decide +kernel
theorem pd_55 : (parseMethodDescriptor "(LPutOffParade;IZ[J)I").map (fun d => d.parameters.length) = some 4 := by decide +kernel
set_option maxRecDepth 20000 in
theorem mo_X0_init : MOi m_X0_init 0 := ⟨⟨rfl, (inC2 (i := 67) rfl rfl), (inC1 (i := 10) rfl rfl), ⟨nh_0.1, nh_0.2, pd_0⟩, by decide +kernel⟩, (inC2 (i := 66) rfl rfl), rfl, rfl⟩
set_option maxRecDepth 20000 in
theorem mo_X0_mostCalled : MOv m_X0_mostCalled 1 := ⟨⟨rfl, (inC3 (i := 11) rfl rfl), (inC1 (i := 10) rfl rfl), ⟨nh_0.1, nh_0.2, pd_1⟩, by decide +kernel⟩, (inC3 (i := 9) rfl rfl), (inC3 (i := 10) rfl rfl)⟩
set_option maxRecDepth 20000 in
theorem mo_X0_canBeCalledTogether : MOv m_X0_canBeCalledTogether 2 := ⟨⟨rfl, (inC3 (i := 19) rfl rfl), (inC1 (i := 10) rfl rfl), ⟨nh_0.1, nh_0.2, pd_2⟩, by decide +kernel⟩, (inC3 (i := 18) rfl rfl), inT2 (i := 5) rfl rfl⟩
set_option maxRecDepth 20000 in
theorem mo_X0_leastShame : MOv m_X0_leastShame 3 := ⟨⟨rfl, (inC6 (i := 48) rfl rfl), (inC1 (i := 10) rfl rfl), ⟨nh_0.1, nh_0.2, pd_3⟩, by decide +kernel⟩, (inC6 (i := 46) rfl rfl), (inC6 (i := 47) rfl rfl)⟩
set_option maxRecDepth 20000 in
theorem mo_X0_leansWithin : MOs m_X0_leansWithin 2 := ⟨⟨rfl, (inC6 (i := 54) rfl rfl), (inC1 (i := 10) rfl rfl), ⟨nh_0.1, nh_0.2, pd_2⟩, by decide +kernel⟩, (inC6 (i := 53) rfl rfl)⟩
set_option maxRecDepth 20000 in
theorem mo_X0_firstSwap : MOs m_X0_firstSwap 3 := ⟨⟨rfl, (inC6 (i := 146) rfl rfl), (inC1 (i := 10) rfl rfl), ⟨nh_0.1, nh_0.2, pd_4⟩, by decide +kernel⟩, (inC6 (i := 145) rfl rfl)⟩
set_option maxRecDepth 20000 in
theorem mo_X0_gainOf : MOs m_X0_gainOf 3 := ⟨⟨rfl, (inC6 (i := 150) rfl rfl), (inC1 (i := 10) rfl rfl), ⟨nh_0.1, nh_0.2, pd_4⟩, by decide +kernel⟩, (inC6 (i := 149) rfl rfl)⟩
set_option maxRecDepth 20000 in
theorem mo_X0_restingChoices : MOs m_X0_restingChoices 2 := ⟨⟨rfl, (inC6 (i := 162) rfl rfl), (inC1 (i := 10) rfl rfl), ⟨nh_0.1, nh_0.2, pd_5⟩, by decide +kernel⟩, (inC6 (i := 161) rfl rfl)⟩
set_option maxRecDepth 20000 in
theorem mo_X0_isBest : MOs m_X0_isBest 4 := ⟨⟨rfl, (inC6 (i := 165) rfl rfl), (inC1 (i := 10) rfl rfl), ⟨nh_0.1, nh_0.2, pd_6⟩, by decide +kernel⟩, (inC6 (i := 164) rfl rfl)⟩
set_option maxRecDepth 20000 in
theorem mo_X0_payOf : MOs m_X0_payOf 4 := ⟨⟨rfl, (inC6 (i := 168) rfl rfl), (inC1 (i := 10) rfl rfl), ⟨nh_0.1, nh_0.2, pd_7⟩, by decide +kernel⟩, (inC6 (i := 167) rfl rfl)⟩
set_option maxRecDepth 20000 in
theorem mo_X0_oddsOf : MOs m_X0_oddsOf 3 := ⟨⟨rfl, (inC6 (i := 178) rfl rfl), (inC1 (i := 10) rfl rfl), ⟨nh_0.1, nh_0.2, pd_8⟩, by decide +kernel⟩, (inC6 (i := 177) rfl rfl)⟩
set_option maxRecDepth 20000 in
theorem mo_X0_power : MOs m_X0_power 2 := ⟨⟨rfl, (inC6 (i := 181) rfl rfl), (inC1 (i := 10) rfl rfl), ⟨nh_0.1, nh_0.2, pd_9⟩, by decide +kernel⟩, (inC6 (i := 180) rfl rfl)⟩
set_option maxRecDepth 20000 in
theorem mo_X0_daysToLeaveFree : MOs m_X0_daysToLeaveFree 3 := ⟨⟨rfl, (inC6 (i := 192) rfl rfl), (inC1 (i := 10) rfl rfl), ⟨nh_0.1, nh_0.2, pd_8⟩, by decide +kernel⟩, (inC6 (i := 191) rfl rfl)⟩
set_option maxRecDepth 20000 in
theorem mo_X1_init : MOi m_X1_init 0 := ⟨⟨rfl, (inC1 (i := 118) rfl rfl), (inC1 (i := 7) rfl rfl), ⟨nh_1.1, nh_1.2, pd_0⟩, by decide +kernel⟩, (inC1 (i := 117) rfl rfl), rfl, rfl⟩
set_option maxRecDepth 20000 in
theorem mo_X1_copyFrom : MOv m_X1_copyFrom 1 := ⟨⟨rfl, (inC3 (i := 185) rfl rfl), (inC1 (i := 7) rfl rfl), ⟨nh_1.1, nh_1.2, pd_10⟩, by decide +kernel⟩, (inC3 (i := 183) rfl rfl), (inC3 (i := 184) rfl rfl)⟩
set_option maxRecDepth 20000 in
theorem mo_X1_add : MOv m_X1_add 4 := ⟨⟨rfl, (inC6 (i := 6) rfl rfl), (inC1 (i := 7) rfl rfl), ⟨nh_1.1, nh_1.2, pd_11⟩, by decide +kernel⟩, (inC6 (i := 4) rfl rfl), (inC6 (i := 5) rfl rfl)⟩
set_option maxRecDepth 20000 in
theorem mo_X1_valueOf : MOv m_X1_valueOf 2 := ⟨⟨rfl, (inC7 (i := 11) rfl rfl), (inC1 (i := 7) rfl rfl), ⟨nh_1.1, nh_1.2, pd_5⟩, by decide +kernel⟩, (inC7 (i := 9) rfl rfl), (inC7 (i := 10) rfl rfl)⟩
set_option maxRecDepth 20000 in
theorem mo_X1_rowsOf : MOv m_X1_rowsOf 1 := ⟨⟨rfl, (inC7 (i := 16) rfl rfl), (inC1 (i := 7) rfl rfl), ⟨nh_1.1, nh_1.2, pd_12⟩, by decide +kernel⟩, (inC7 (i := 14) rfl rfl), (inC7 (i := 15) rfl rfl)⟩
set_option maxRecDepth 20000 in
theorem mo_X1_latestMonthOf : MOv m_X1_latestMonthOf 1 := ⟨⟨rfl, (inC7 (i := 7) rfl rfl), (inC1 (i := 7) rfl rfl), ⟨nh_1.1, nh_1.2, pd_12⟩, by decide +kernel⟩, (inC7 (i := 5) rfl rfl), (inC7 (i := 6) rfl rfl)⟩
set_option maxRecDepth 20000 in
theorem mo_X2_init : MOi m_X2_init 0 := ⟨⟨rfl, (inC2 (i := 12) rfl rfl), (inC1 (i := 9) rfl rfl), ⟨nh_2.1, nh_2.2, pd_0⟩, by decide +kernel⟩, (inC2 (i := 11) rfl rfl), rfl, rfl⟩
set_option maxRecDepth 20000 in
theorem mo_X2_copyFrom : MOv m_X2_copyFrom 1 := ⟨⟨rfl, (inC3 (i := 194) rfl rfl), (inC1 (i := 9) rfl rfl), ⟨nh_2.1, nh_2.2, pd_13⟩, by decide +kernel⟩, (inC3 (i := 192) rfl rfl), (inC3 (i := 193) rfl rfl)⟩
set_option maxRecDepth 20000 in
theorem mo_X2_clear : MOv m_X2_clear 0 := ⟨⟨rfl, (inC5 (i := 80) rfl rfl), (inC1 (i := 9) rfl rfl), ⟨nh_2.1, nh_2.2, pd_0⟩, by decide +kernel⟩, (inC5 (i := 78) rfl rfl), (inC5 (i := 79) rfl rfl)⟩
set_option maxRecDepth 20000 in
theorem mo_X2_openLine : MOv m_X2_openLine 2 := ⟨⟨rfl, (inC4 (i := 94) rfl rfl), (inC1 (i := 9) rfl rfl), ⟨nh_2.1, nh_2.2, pd_14⟩, by decide +kernel⟩, (inC4 (i := 92) rfl rfl), (inC4 (i := 93) rfl rfl)⟩
set_option maxRecDepth 20000 in
theorem mo_X2_emit : MOv m_X2_emit 1 := ⟨⟨rfl, (inC4 (i := 126) rfl rfl), (inC1 (i := 9) rfl rfl), ⟨nh_2.1, nh_2.2, pd_15⟩, by decide +kernel⟩, (inC4 (i := 124) rfl rfl), (inC4 (i := 125) rfl rfl)⟩
set_option maxRecDepth 20000 in
theorem mo_X2_closeLine : MOv m_X2_closeLine 0 := ⟨⟨rfl, (inC4 (i := 162) rfl rfl), (inC1 (i := 9) rfl rfl), ⟨nh_2.1, nh_2.2, pd_0⟩, by decide +kernel⟩, (inC4 (i := 160) rfl rfl), (inC4 (i := 161) rfl rfl)⟩
set_option maxRecDepth 20000 in
theorem mo_X2_growthOf : MOv m_X2_growthOf 2 := ⟨⟨rfl, (inC3 (i := 150) rfl rfl), (inC1 (i := 9) rfl rfl), ⟨nh_2.1, nh_2.2, pd_16⟩, by decide +kernel⟩, (inC3 (i := 148) rfl rfl), (inC3 (i := 149) rfl rfl)⟩
set_option maxRecDepth 20000 in
theorem mo_X2_shameOf : MOv m_X2_shameOf 2 := ⟨⟨rfl, (inC2 (i := 181) rfl rfl), (inC1 (i := 9) rfl rfl), ⟨nh_2.1, nh_2.2, pd_16⟩, by decide +kernel⟩, (inC2 (i := 179) rfl rfl), (inC2 (i := 180) rfl rfl)⟩
set_option maxRecDepth 20000 in
theorem mo_X2_shameOfSet : MOv m_X2_shameOfSet 2 := ⟨⟨rfl, (inC2 (i := 173) rfl rfl), (inC1 (i := 9) rfl rfl), ⟨nh_2.1, nh_2.2, pd_16⟩, by decide +kernel⟩, (inC2 (i := 171) rfl rfl), (inC2 (i := 172) rfl rfl)⟩
set_option maxRecDepth 20000 in
theorem mo_X2_takeParts : MOv m_X2_takeParts 2 := ⟨⟨rfl, (inC2 (i := 185) rfl rfl), (inC1 (i := 9) rfl rfl), ⟨nh_2.1, nh_2.2, pd_17⟩, by decide +kernel⟩, (inC2 (i := 184) rfl rfl), inT2 (i := 1) rfl rfl⟩
set_option maxRecDepth 20000 in
theorem mo_X2_setPart : MOv m_X2_setPart 2 := ⟨⟨rfl, (inC2 (i := 190) rfl rfl), (inC1 (i := 9) rfl rfl), ⟨nh_2.1, nh_2.2, pd_14⟩, by decide +kernel⟩, (inC2 (i := 189) rfl rfl), inT2 (i := 2) rfl rfl⟩
set_option maxRecDepth 20000 in
theorem mo_X2_sumOfLines : MOv m_X2_sumOfLines 1 := ⟨⟨rfl, (inC2 (i := 198) rfl rfl), (inC1 (i := 9) rfl rfl), ⟨nh_2.1, nh_2.2, pd_12⟩, by decide +kernel⟩, (inC2 (i := 197) rfl rfl), inT2 (i := 3) rfl rfl⟩
set_option maxRecDepth 20000 in
theorem mo_X2_holds : MOv m_X2_holds 1 := ⟨⟨rfl, (inC2 (i := 202) rfl rfl), (inC1 (i := 9) rfl rfl), ⟨nh_2.1, nh_2.2, pd_18⟩, by decide +kernel⟩, (inC2 (i := 201) rfl rfl), inT2 (i := 4) rfl rfl⟩
set_option maxRecDepth 20000 in
theorem mo_X2_joined : MOs m_X2_joined 3 := ⟨⟨rfl, (inC2 (i := 205) rfl rfl), (inC1 (i := 9) rfl rfl), ⟨nh_2.1, nh_2.2, pd_8⟩, by decide +kernel⟩, (inC2 (i := 204) rfl rfl)⟩
set_option maxRecDepth 20000 in
theorem mo_X3_init : MOi m_X3_init 0 := ⟨⟨rfl, (inC2 (i := 6) rfl rfl), (inC1 (i := 8) rfl rfl), ⟨nh_3.1, nh_3.2, pd_0⟩, by decide +kernel⟩, (inC2 (i := 5) rfl rfl), rfl, rfl⟩
set_option maxRecDepth 20000 in
theorem mo_X3_readLine : MO m_X3_readLine 0 := ⟨rfl, (inC4 (i := 72) rfl rfl), (inC1 (i := 8) rfl rfl), ⟨by decide +kernel, by decide +kernel, by decide +kernel⟩, by decide +kernel⟩
set_option maxRecDepth 20000 in
theorem mo_X3_takeKind : MOv m_X3_takeKind 0 := ⟨⟨rfl, (inC4 (i := 76) rfl rfl), (inC1 (i := 8) rfl rfl), ⟨nh_3.1, nh_3.2, pd_19⟩, by decide +kernel⟩, (inC4 (i := 75) rfl rfl), inT2 (i := 16) rfl rfl⟩
set_option maxRecDepth 20000 in
theorem mo_X3_readCondition : MOv m_X3_readCondition 0 := ⟨⟨rfl, (inC4 (i := 100) rfl rfl), (inC1 (i := 8) rfl rfl), ⟨nh_3.1, nh_3.2, pd_20⟩, by decide +kernel⟩, (inC4 (i := 99) rfl rfl), inT2 (i := 17) rfl rfl⟩
set_option maxRecDepth 20000 in
theorem mo_X3_joinAtHand : MOv m_X3_joinAtHand 0 := ⟨⟨rfl, (inC4 (i := 154) rfl rfl), (inC1 (i := 8) rfl rfl), ⟨nh_3.1, nh_3.2, pd_19⟩, by decide +kernel⟩, (inC4 (i := 153) rfl rfl), inT2 (i := 25) rfl rfl⟩
set_option maxRecDepth 20000 in
theorem mo_X3_openDeeper : MOv m_X3_openDeeper 0 := ⟨⟨rfl, (inC4 (i := 104) rfl rfl), (inC1 (i := 8) rfl rfl), ⟨nh_3.1, nh_3.2, pd_20⟩, by decide +kernel⟩, (inC4 (i := 103) rfl rfl), inT2 (i := 18) rfl rfl⟩
set_option maxRecDepth 20000 in
theorem mo_X3_closeDeeper : MOv m_X3_closeDeeper 0 := ⟨⟨rfl, (inC4 (i := 145) rfl rfl), (inC1 (i := 8) rfl rfl), ⟨nh_3.1, nh_3.2, pd_0⟩, by decide +kernel⟩, (inC4 (i := 144) rfl rfl), inT2 (i := 23) rfl rfl⟩
set_option maxRecDepth 20000 in
theorem mo_X3_hold : MOv m_X3_hold 1 := ⟨⟨rfl, (inC4 (i := 114) rfl rfl), (inC1 (i := 8) rfl rfl), ⟨nh_3.1, nh_3.2, pd_15⟩, by decide +kernel⟩, (inC4 (i := 113) rfl rfl), inT2 (i := 19) rfl rfl⟩
set_option maxRecDepth 20000 in
theorem mo_X3_emitHeld : MOv m_X3_emitHeld 1 := ⟨⟨rfl, (inC4 (i := 149) rfl rfl), (inC1 (i := 8) rfl rfl), ⟨nh_3.1, nh_3.2, pd_15⟩, by decide +kernel⟩, (inC4 (i := 148) rfl rfl), inT2 (i := 24) rfl rfl⟩
set_option maxRecDepth 20000 in
theorem mo_X3_readAtom : MOv m_X3_readAtom 0 := ⟨⟨rfl, (inC4 (i := 120) rfl rfl), (inC1 (i := 8) rfl rfl), ⟨nh_3.1, nh_3.2, pd_20⟩, by decide +kernel⟩, (inC4 (i := 119) rfl rfl), inT2 (i := 20) rfl rfl⟩
set_option maxRecDepth 20000 in
theorem mo_X3_readSum : MOv m_X3_readSum 0 := ⟨⟨rfl, (inC4 (i := 132) rfl rfl), (inC1 (i := 8) rfl rfl), ⟨nh_3.1, nh_3.2, pd_20⟩, by decide +kernel⟩, (inC4 (i := 131) rfl rfl), inT2 (i := 21) rfl rfl⟩
set_option maxRecDepth 20000 in
theorem mo_X3_partAtHand : MOv m_X3_partAtHand 0 := ⟨⟨rfl, (inC4 (i := 136) rfl rfl), (inC1 (i := 8) rfl rfl), ⟨nh_3.1, nh_3.2, pd_19⟩, by decide +kernel⟩, (inC4 (i := 135) rfl rfl), inT2 (i := 22) rfl rfl⟩
set_option maxRecDepth 20000 in
theorem mo_X4_chainOf : MOs m_X4_chainOf 2 := ⟨⟨rfl, (inC3 (i := 34) rfl rfl), (inC1 (i := 29) rfl rfl), ⟨nh_4.1, nh_4.2, pd_16⟩, by decide +kernel⟩, (inC3 (i := 33) rfl rfl)⟩
set_option maxRecDepth 20000 in
theorem mo_X4_leaningOn : MOs m_X4_leaningOn 2 := ⟨⟨rfl, (inC6 (i := 80) rfl rfl), (inC1 (i := 29) rfl rfl), ⟨nh_4.1, nh_4.2, pd_16⟩, by decide +kernel⟩, (inC6 (i := 79) rfl rfl)⟩
set_option maxRecDepth 20000 in
theorem mo_X4_ringBits : MOs m_X4_ringBits 1 := ⟨⟨rfl, (inC3 (i := 41) rfl rfl), (inC1 (i := 29) rfl rfl), ⟨nh_4.1, nh_4.2, pd_1⟩, by decide +kernel⟩, (inC3 (i := 40) rfl rfl)⟩
set_option maxRecDepth 20000 in
theorem mo_X4_hoursTill : MOs m_X4_hoursTill 2 := ⟨⟨rfl, (inC3 (i := 29) rfl rfl), (inC1 (i := 29) rfl rfl), ⟨nh_4.1, nh_4.2, pd_16⟩, by decide +kernel⟩, (inC3 (i := 28) rfl rfl)⟩
set_option maxRecDepth 20000 in
theorem mo_X4_hoursTillYoung : MOs m_X4_hoursTillYoung 2 := ⟨⟨rfl, (inC6 (i := 97) rfl rfl), (inC1 (i := 29) rfl rfl), ⟨nh_4.1, nh_4.2, pd_16⟩, by decide +kernel⟩, (inC6 (i := 96) rfl rfl)⟩
set_option maxRecDepth 20000 in
theorem mo_X4_hoursOf : MOs m_X4_hoursOf 2 := ⟨⟨rfl, (inC3 (i := 38) rfl rfl), (inC1 (i := 29) rfl rfl), ⟨nh_4.1, nh_4.2, pd_16⟩, by decide +kernel⟩, (inC3 (i := 37) rfl rfl)⟩
set_option maxRecDepth 20000 in
theorem mo_X5_init : MOi m_X5_init 0 := ⟨⟨rfl, (inC1 (i := 112) rfl rfl), (inC1 (i := 6) rfl rfl), ⟨nh_5.1, nh_5.2, pd_0⟩, by decide +kernel⟩, (inC1 (i := 111) rfl rfl), rfl, rfl⟩
set_option maxRecDepth 20000 in
theorem mo_X5_copyFrom : MOv m_X5_copyFrom 1 := ⟨⟨rfl, (inC3 (i := 109) rfl rfl), (inC1 (i := 6) rfl rfl), ⟨nh_5.1, nh_5.2, pd_21⟩, by decide +kernel⟩, (inC3 (i := 107) rfl rfl), (inC3 (i := 108) rfl rfl)⟩
set_option maxRecDepth 20000 in
theorem mo_X5_copyAll : MOv m_X5_copyAll 1 := ⟨⟨rfl, (inC3 (i := 180) rfl rfl), (inC1 (i := 6) rfl rfl), ⟨nh_5.1, nh_5.2, pd_21⟩, by decide +kernel⟩, (inC3 (i := 178) rfl rfl), (inC3 (i := 179) rfl rfl)⟩
set_option maxRecDepth 20000 in
theorem mo_X5_addPerson : MOv m_X5_addPerson 2 := ⟨⟨rfl, (inC4 (i := 186) rfl rfl), (inC1 (i := 6) rfl rfl), ⟨nh_5.1, nh_5.2, pd_14⟩, by decide +kernel⟩, (inC4 (i := 184) rfl rfl), (inC4 (i := 185) rfl rfl)⟩
set_option maxRecDepth 20000 in
theorem mo_X5_addDuty : MOv m_X5_addDuty 5 := ⟨⟨rfl, (inC4 (i := 206) rfl rfl), (inC1 (i := 6) rfl rfl), ⟨nh_5.1, nh_5.2, pd_22⟩, by decide +kernel⟩, (inC4 (i := 204) rfl rfl), (inC4 (i := 205) rfl rfl)⟩
set_option maxRecDepth 20000 in
theorem mo_X5_isWaiting : MOv m_X5_isWaiting 1 := ⟨⟨rfl, (inC2 (i := 161) rfl rfl), (inC1 (i := 6) rfl rfl), ⟨nh_5.1, nh_5.2, pd_18⟩, by decide +kernel⟩, (inC2 (i := 159) rfl rfl), (inC2 (i := 160) rfl rfl)⟩
set_option maxRecDepth 20000 in
theorem mo_X5_leansFreely : MOv m_X5_leansFreely 1 := ⟨⟨rfl, (inC2 (i := 165) rfl rfl), (inC1 (i := 6) rfl rfl), ⟨nh_5.1, nh_5.2, pd_18⟩, by decide +kernel⟩, (inC2 (i := 163) rfl rfl), (inC2 (i := 164) rfl rfl)⟩
set_option maxRecDepth 20000 in
theorem mo_X5_isReady : MOv m_X5_isReady 1 := ⟨⟨rfl, (inC2 (i := 157) rfl rfl), (inC1 (i := 6) rfl rfl), ⟨nh_5.1, nh_5.2, pd_18⟩, by decide +kernel⟩, (inC2 (i := 155) rfl rfl), (inC2 (i := 156) rfl rfl)⟩
set_option maxRecDepth 20000 in
theorem mo_X5_areAlike : MOv m_X5_areAlike 2 := ⟨⟨rfl, (inC3 (i := 101) rfl rfl), (inC1 (i := 6) rfl rfl), ⟨nh_5.1, nh_5.2, pd_23⟩, by decide +kernel⟩, (inC3 (i := 99) rfl rfl), (inC3 (i := 100) rfl rfl)⟩
set_option maxRecDepth 20000 in
theorem mo_X5_bitsIn : MOv m_X5_bitsIn 1 := ⟨⟨rfl, (inC2 (i := 143) rfl rfl), (inC1 (i := 6) rfl rfl), ⟨nh_5.1, nh_5.2, pd_12⟩, by decide +kernel⟩, (inC2 (i := 141) rfl rfl), (inC2 (i := 142) rfl rfl)⟩
set_option maxRecDepth 20000 in
theorem mo_X5_readyBits : MOv m_X5_readyBits 0 := ⟨⟨rfl, (inC2 (i := 153) rfl rfl), (inC1 (i := 6) rfl rfl), ⟨nh_5.1, nh_5.2, pd_19⟩, by decide +kernel⟩, (inC2 (i := 151) rfl rfl), (inC2 (i := 152) rfl rfl)⟩
set_option maxRecDepth 20000 in
theorem mo_X5_olderThan : MOv m_X5_olderThan 1 := ⟨⟨rfl, (inC2 (i := 237) rfl rfl), (inC1 (i := 6) rfl rfl), ⟨nh_5.1, nh_5.2, pd_12⟩, by decide +kernel⟩, (inC2 (i := 235) rfl rfl), (inC2 (i := 236) rfl rfl)⟩
set_option maxRecDepth 20000 in
theorem mo_X5_ownedBy : MOv m_X5_ownedBy 1 := ⟨⟨rfl, (inC3 (i := 87) rfl rfl), (inC1 (i := 6) rfl rfl), ⟨nh_5.1, nh_5.2, pd_12⟩, by decide +kernel⟩, (inC3 (i := 85) rfl rfl), (inC3 (i := 86) rfl rfl)⟩
set_option maxRecDepth 20000 in
theorem mo_X5_loadOf : MOv m_X5_loadOf 1 := ⟨⟨rfl, (inC3 (i := 83) rfl rfl), (inC1 (i := 6) rfl rfl), ⟨nh_5.1, nh_5.2, pd_12⟩, by decide +kernel⟩, (inC3 (i := 81) rfl rfl), (inC3 (i := 82) rfl rfl)⟩
set_option maxRecDepth 20000 in
theorem mo_X5_standingBetween : MOv m_X5_standingBetween 2 := ⟨⟨rfl, (inC6 (i := 125) rfl rfl), (inC1 (i := 6) rfl rfl), ⟨nh_5.1, nh_5.2, pd_5⟩, by decide +kernel⟩, (inC6 (i := 123) rfl rfl), (inC6 (i := 124) rfl rfl)⟩
set_option maxRecDepth 20000 in
theorem mo_X5_placeOf : MOv m_X5_placeOf 1 := ⟨⟨rfl, (inC2 (i := 220) rfl rfl), (inC1 (i := 6) rfl rfl), ⟨nh_5.1, nh_5.2, pd_12⟩, by decide +kernel⟩, (inC2 (i := 218) rfl rfl), (inC2 (i := 219) rfl rfl)⟩
set_option maxRecDepth 20000 in
theorem mo_X5_dutyAt : MOv m_X5_dutyAt 1 := ⟨⟨rfl, (inC2 (i := 216) rfl rfl), (inC1 (i := 6) rfl rfl), ⟨nh_5.1, nh_5.2, pd_12⟩, by decide +kernel⟩, (inC2 (i := 214) rfl rfl), (inC2 (i := 215) rfl rfl)⟩
set_option maxRecDepth 20000 in
theorem mo_X5_passesOf : MOv m_X5_passesOf 1 := ⟨⟨rfl, (inC2 (i := 232) rfl rfl), (inC1 (i := 6) rfl rfl), ⟨nh_5.1, nh_5.2, pd_12⟩, by decide +kernel⟩, (inC2 (i := 230) rfl rfl), (inC2 (i := 231) rfl rfl)⟩
set_option maxRecDepth 20000 in
theorem mo_X5_canBits : MOv m_X5_canBits 0 := ⟨⟨rfl, (inC2 (i := 228) rfl rfl), (inC1 (i := 6) rfl rfl), ⟨nh_5.1, nh_5.2, pd_19⟩, by decide +kernel⟩, (inC2 (i := 226) rfl rfl), (inC2 (i := 227) rfl rfl)⟩
set_option maxRecDepth 20000 in
theorem mo_X5_kerbAt : MOv m_X5_kerbAt 2 := ⟨⟨rfl, (inC6 (i := 30) rfl rfl), (inC1 (i := 6) rfl rfl), ⟨nh_5.1, nh_5.2, pd_5⟩, by decide +kernel⟩, (inC6 (i := 28) rfl rfl), (inC6 (i := 29) rfl rfl)⟩
set_option maxRecDepth 20000 in
theorem mo_X5_finish : MOv m_X5_finish 1 := ⟨⟨rfl, (inC3 (i := 142) rfl rfl), (inC1 (i := 6) rfl rfl), ⟨nh_5.1, nh_5.2, pd_15⟩, by decide +kernel⟩, (inC3 (i := 140) rfl rfl), (inC3 (i := 141) rfl rfl)⟩
set_option maxRecDepth 20000 in
theorem mo_X5_growOlder : MOv m_X5_growOlder 1 := ⟨⟨rfl, (inC3 (i := 154) rfl rfl), (inC1 (i := 6) rfl rfl), ⟨nh_5.1, nh_5.2, pd_15⟩, by decide +kernel⟩, (inC3 (i := 152) rfl rfl), (inC3 (i := 153) rfl rfl)⟩
set_option maxRecDepth 20000 in
theorem mo_X5_passDay : MOv m_X5_passDay 2 := ⟨⟨rfl, (inC3 (i := 126) rfl rfl), (inC1 (i := 6) rfl rfl), ⟨nh_5.1, nh_5.2, pd_24⟩, by decide +kernel⟩, (inC3 (i := 124) rfl rfl), (inC3 (i := 125) rfl rfl)⟩
set_option maxRecDepth 20000 in
theorem mo_X5_daysTillDone : MOv m_X5_daysTillDone 2 := ⟨⟨rfl, (inC6 (i := 204) rfl rfl), (inC1 (i := 6) rfl rfl), ⟨nh_5.1, nh_5.2, pd_25⟩, by decide +kernel⟩, (inC6 (i := 202) rfl rfl), (inC6 (i := 203) rfl rfl)⟩
set_option maxRecDepth 20000 in
theorem mo_X5_daysTillNoneWaits : MOv m_X5_daysTillNoneWaits 1 := ⟨⟨rfl, (inC3 (i := 122) rfl rfl), (inC1 (i := 6) rfl rfl), ⟨nh_5.1, nh_5.2, pd_26⟩, by decide +kernel⟩, (inC3 (i := 120) rfl rfl), (inC3 (i := 121) rfl rfl)⟩
set_option maxRecDepth 20000 in
theorem mo_X5_draw : MOv m_X5_draw 0 := ⟨⟨rfl, (inC3 (i := 130) rfl rfl), (inC1 (i := 6) rfl rfl), ⟨nh_5.1, nh_5.2, pd_19⟩, by decide +kernel⟩, (inC3 (i := 129) rfl rfl), inT2 (i := 7) rfl rfl⟩
set_option maxRecDepth 20000 in
theorem mo_X5_work : MOv m_X5_work 2 := ⟨⟨rfl, (inC3 (i := 135) rfl rfl), (inC1 (i := 6) rfl rfl), ⟨nh_5.1, nh_5.2, pd_5⟩, by decide +kernel⟩, (inC3 (i := 134) rfl rfl), inT2 (i := 8) rfl rfl⟩
set_option maxRecDepth 20000 in
theorem mo_X5_passMonth : MOv m_X5_passMonth 1 := ⟨⟨rfl, (inC3 (i := 146) rfl rfl), (inC1 (i := 6) rfl rfl), ⟨nh_5.1, nh_5.2, pd_13⟩, by decide +kernel⟩, (inC3 (i := 145) rfl rfl), inT2 (i := 9) rfl rfl⟩
set_option maxRecDepth 20000 in
theorem mo_X6_init : MOi m_X6_init 0 := ⟨⟨rfl, (inC1 (i := 58) rfl rfl), (inC1 (i := 4) rfl rfl), ⟨nh_6.1, nh_6.2, pd_0⟩, by decide +kernel⟩, (inC1 (i := 57) rfl rfl), rfl, rfl⟩
set_option maxRecDepth 20000 in
theorem mo_X6_readLine : MO m_X6_readLine 0 := ⟨rfl, (inC4 (i := 165) rfl rfl), (inC1 (i := 4) rfl rfl), ⟨by decide +kernel, by decide +kernel, by decide +kernel⟩, by decide +kernel⟩
set_option maxRecDepth 20000 in
theorem mo_X6_readPerson : MOv m_X6_readPerson 0 := ⟨⟨rfl, (inC4 (i := 171) rfl rfl), (inC1 (i := 4) rfl rfl), ⟨nh_6.1, nh_6.2, pd_20⟩, by decide +kernel⟩, (inC4 (i := 170) rfl rfl), inT2 (i := 26) rfl rfl⟩
set_option maxRecDepth 20000 in
theorem mo_X6_readDuty : MOv m_X6_readDuty 0 := ⟨⟨rfl, (inC4 (i := 192) rfl rfl), (inC1 (i := 4) rfl rfl), ⟨nh_6.1, nh_6.2, pd_20⟩, by decide +kernel⟩, (inC4 (i := 191) rfl rfl), inT2 (i := 28) rfl rfl⟩
set_option maxRecDepth 20000 in
theorem mo_X6_readForgotten : MOv m_X6_readForgotten 0 := ⟨⟨rfl, (inC4 (i := 212) rfl rfl), (inC1 (i := 4) rfl rfl), ⟨nh_6.1, nh_6.2, pd_20⟩, by decide +kernel⟩, (inC4 (i := 211) rfl rfl), inT2 (i := 29) rfl rfl⟩
set_option maxRecDepth 20000 in
theorem mo_X6_readSetting : MOv m_X6_readSetting 0 := ⟨⟨rfl, (inC4 (i := 218) rfl rfl), (inC1 (i := 4) rfl rfl), ⟨nh_6.1, nh_6.2, pd_20⟩, by decide +kernel⟩, (inC4 (i := 217) rfl rfl), inT2 (i := 30) rfl rfl⟩
set_option maxRecDepth 20000 in
theorem mo_X6_readNumberOf : MOv m_X6_readNumberOf 3 := ⟨⟨rfl, (inC4 (i := 178) rfl rfl), (inC1 (i := 4) rfl rfl), ⟨nh_6.1, nh_6.2, pd_27⟩, by decide +kernel⟩, (inC4 (i := 177) rfl rfl), inT2 (i := 27) rfl rfl⟩
set_option maxRecDepth 20000 in
theorem mo_X7_init : MOi m_X7_init 0 := ⟨⟨rfl, (inC1 (i := 42) rfl rfl), (inC1 (i := 2) rfl rfl), ⟨nh_7.1, nh_7.2, pd_0⟩, by decide +kernel⟩, (inC1 (i := 41) rfl rfl), rfl, rfl⟩
set_option maxRecDepth 20000 in
theorem mo_X7_append : MOv m_X7_append 1 := ⟨⟨rfl, (inC2 (i := 127) rfl rfl), (inC1 (i := 2) rfl rfl), ⟨nh_7.1, nh_7.2, pd_15⟩, by decide +kernel⟩, (inC2 (i := 125) rfl rfl), (inC2 (i := 126) rfl rfl)⟩
set_option maxRecDepth 20000 in
theorem mo_X7_byteAt : MOv m_X7_byteAt 1 := ⟨⟨rfl, (inC3 (i := 222) rfl rfl), (inC1 (i := 2) rfl rfl), ⟨nh_7.1, nh_7.2, pd_12⟩, by decide +kernel⟩, (inC3 (i := 220) rfl rfl), (inC3 (i := 221) rfl rfl)⟩
set_option maxRecDepth 20000 in
theorem mo_X8_init : MOi m_X8_init 1 := ⟨⟨rfl, (inC1 (i := 61) rfl rfl), (inC1 (i := 3) rfl rfl), ⟨nh_8.1, nh_8.2, pd_15⟩, by decide +kernel⟩, (inC1 (i := 60) rfl rfl), rfl, rfl⟩
set_option maxRecDepth 20000 in
theorem mo_X8_readLines : MO m_X8_readLines 1 := ⟨rfl, (inC3 (i := 214) rfl rfl), (inC1 (i := 3) rfl rfl), ⟨by decide +kernel, by decide +kernel, by decide +kernel⟩, by decide +kernel⟩
set_option maxRecDepth 20000 in
theorem mo_X9_init : MOi m_X9_init 0 := ⟨⟨rfl, (inC1 (i := 67) rfl rfl), (inC1 (i := 5) rfl rfl), ⟨nh_9.1, nh_9.2, pd_0⟩, by decide +kernel⟩, (inC1 (i := 66) rfl rfl), rfl, rfl⟩
set_option maxRecDepth 20000 in
theorem mo_X9_scan : MOv m_X9_scan 1 := ⟨⟨rfl, (inC3 (i := 218) rfl rfl), (inC1 (i := 5) rfl rfl), ⟨nh_9.1, nh_9.2, pd_28⟩, by decide +kernel⟩, (inC3 (i := 216) rfl rfl), (inC3 (i := 217) rfl rfl)⟩
set_option maxRecDepth 20000 in
theorem mo_X9_kindOf : MOs m_X9_kindOf 1 := ⟨⟨rfl, (inC3 (i := 225) rfl rfl), (inC1 (i := 5) rfl rfl), ⟨nh_9.1, nh_9.2, pd_12⟩, by decide +kernel⟩, (inC3 (i := 224) rfl rfl)⟩
set_option maxRecDepth 20000 in
theorem mo_X9_open : MOv m_X9_open 2 := ⟨⟨rfl, (inC3 (i := 229) rfl rfl), (inC1 (i := 5) rfl rfl), ⟨nh_9.1, nh_9.2, pd_14⟩, by decide +kernel⟩, (inC3 (i := 228) rfl rfl), inT2 (i := 11) rfl rfl⟩
set_option maxRecDepth 20000 in
theorem mo_X9_valueOf : MOv m_X9_valueOf 2 := ⟨⟨rfl, (inC3 (i := 234) rfl rfl), (inC1 (i := 5) rfl rfl), ⟨nh_9.1, nh_9.2, pd_29⟩, by decide +kernel⟩, (inC3 (i := 233) rfl rfl), inT2 (i := 12) rfl rfl⟩
set_option maxRecDepth 20000 in
theorem mo_X9_wordOf : MOv m_X9_wordOf 2 := ⟨⟨rfl, (inC3 (i := 239) rfl rfl), (inC1 (i := 5) rfl rfl), ⟨nh_9.1, nh_9.2, pd_29⟩, by decide +kernel⟩, (inC3 (i := 238) rfl rfl), inT2 (i := 13) rfl rfl⟩
set_option maxRecDepth 20000 in
theorem mo_X9_isText : MOv m_X9_isText 3 := ⟨⟨rfl, (inC4 (i := 5) rfl rfl), (inC1 (i := 5) rfl rfl), ⟨nh_9.1, nh_9.2, pd_30⟩, by decide +kernel⟩, (inC4 (i := 4) rfl rfl), inT2 (i := 14) rfl rfl⟩
set_option maxRecDepth 20000 in
theorem mo_X9_numberOf : MOv m_X9_numberOf 2 := ⟨⟨rfl, (inC4 (i := 57) rfl rfl), (inC1 (i := 5) rfl rfl), ⟨nh_9.1, nh_9.2, pd_29⟩, by decide +kernel⟩, (inC4 (i := 56) rfl rfl), inT2 (i := 15) rfl rfl⟩
set_option maxRecDepth 20000 in
theorem mo_X9_next : MOv m_X9_next 0 := ⟨⟨rfl, (inC4 (i := 61) rfl rfl), (inC1 (i := 5) rfl rfl), ⟨nh_9.1, nh_9.2, pd_0⟩, by decide +kernel⟩, (inC4 (i := 59) rfl rfl), (inC4 (i := 60) rfl rfl)⟩
set_option maxRecDepth 20000 in
theorem mo_X9_isEnd : MOv m_X9_isEnd 0 := ⟨⟨rfl, (inC4 (i := 66) rfl rfl), (inC1 (i := 5) rfl rfl), ⟨nh_9.1, nh_9.2, pd_20⟩, by decide +kernel⟩, (inC4 (i := 64) rfl rfl), (inC4 (i := 65) rfl rfl)⟩
set_option maxRecDepth 20000 in
theorem mo_X9_isSign : MOv m_X9_isSign 1 := ⟨⟨rfl, (inC4 (i := 110) rfl rfl), (inC1 (i := 5) rfl rfl), ⟨nh_9.1, nh_9.2, pd_31⟩, by decide +kernel⟩, (inC4 (i := 108) rfl rfl), (inC4 (i := 109) rfl rfl)⟩
set_option maxRecDepth 20000 in
theorem mo_X9_takeSign : MOv m_X9_takeSign 1 := ⟨⟨rfl, (inC4 (i := 140) rfl rfl), (inC1 (i := 5) rfl rfl), ⟨nh_9.1, nh_9.2, pd_31⟩, by decide +kernel⟩, (inC4 (i := 138) rfl rfl), (inC4 (i := 139) rfl rfl)⟩
set_option maxRecDepth 20000 in
theorem mo_X9_takeWord : MOv m_X9_takeWord 1 := ⟨⟨rfl, (inC4 (i := 82) rfl rfl), (inC1 (i := 5) rfl rfl), ⟨nh_9.1, nh_9.2, pd_32⟩, by decide +kernel⟩, (inC4 (i := 80) rfl rfl), (inC4 (i := 81) rfl rfl)⟩
set_option maxRecDepth 20000 in
theorem mo_X9_takeNumber : MOv m_X9_takeNumber 2 := ⟨⟨rfl, (inC4 (i := 90) rfl rfl), (inC1 (i := 5) rfl rfl), ⟨nh_9.1, nh_9.2, pd_5⟩, by decide +kernel⟩, (inC4 (i := 88) rfl rfl), (inC4 (i := 89) rfl rfl)⟩
set_option maxRecDepth 20000 in
theorem mo_X11_init : MOi m_X11_init 0 := ⟨⟨rfl, (inC1 (i := 34) rfl rfl), (inC1 (i := 1) rfl rfl), ⟨nh_10.1, nh_10.2, pd_0⟩, by decide +kernel⟩, (inC1 (i := 33) rfl rfl), rfl, rfl⟩
set_option maxRecDepth 20000 in
theorem mo_X11_feed : MOv m_X11_feed 5 := ⟨⟨rfl, (inC2 (i := 123) rfl rfl), (inC1 (i := 1) rfl rfl), ⟨nh_10.1, nh_10.2, pd_33⟩, by decide +kernel⟩, (inC2 (i := 121) rfl rfl), (inC2 (i := 122) rfl rfl)⟩
set_option maxRecDepth 20000 in
theorem mo_X11_end : MOv m_X11_end 1 := ⟨⟨rfl, (inC2 (i := 131) rfl rfl), (inC1 (i := 1) rfl rfl), ⟨nh_10.1, nh_10.2, pd_18⟩, by decide +kernel⟩, (inC2 (i := 129) rfl rfl), (inC2 (i := 130) rfl rfl)⟩
set_option maxRecDepth 20000 in
theorem mo_X11_street : MOv m_X11_street 0 := ⟨⟨rfl, (inC3 (i := 208) rfl rfl), (inC1 (i := 1) rfl rfl), ⟨nh_10.1, nh_10.2, pd_19⟩, by decide +kernel⟩, (inC3 (i := 206) rfl rfl), (inC3 (i := 207) rfl rfl)⟩
set_option maxRecDepth 20000 in
theorem mo_X11_law : MOv m_X11_law 0 := ⟨⟨rfl, (inC5 (i := 76) rfl rfl), (inC1 (i := 1) rfl rfl), ⟨nh_10.1, nh_10.2, pd_19⟩, by decide +kernel⟩, (inC5 (i := 74) rfl rfl), (inC5 (i := 75) rfl rfl)⟩
set_option maxRecDepth 20000 in
theorem mo_X11_fault : MOv m_X11_fault 0 := ⟨⟨rfl, (inC2 (i := 135) rfl rfl), (inC1 (i := 1) rfl rfl), ⟨nh_10.1, nh_10.2, pd_19⟩, by decide +kernel⟩, (inC2 (i := 133) rfl rfl), (inC2 (i := 134) rfl rfl)⟩
set_option maxRecDepth 20000 in
theorem mo_X11_person : MOv m_X11_person 2 := ⟨⟨rfl, (inC5 (i := 92) rfl rfl), (inC1 (i := 1) rfl rfl), ⟨nh_10.1, nh_10.2, pd_5⟩, by decide +kernel⟩, (inC5 (i := 90) rfl rfl), (inC5 (i := 91) rfl rfl)⟩
set_option maxRecDepth 20000 in
theorem mo_X11_duty : MOv m_X11_duty 2 := ⟨⟨rfl, (inC5 (i := 141) rfl rfl), (inC1 (i := 1) rfl rfl), ⟨nh_10.1, nh_10.2, pd_5⟩, by decide +kernel⟩, (inC5 (i := 139) rfl rfl), (inC5 (i := 140) rfl rfl)⟩
set_option maxRecDepth 20000 in
theorem mo_X11_count : MOv m_X11_count 1 := ⟨⟨rfl, (inC2 (i := 139) rfl rfl), (inC1 (i := 1) rfl rfl), ⟨nh_10.1, nh_10.2, pd_12⟩, by decide +kernel⟩, (inC2 (i := 137) rfl rfl), (inC2 (i := 138) rfl rfl)⟩
set_option maxRecDepth 20000 in
theorem mo_X11_call : MOv m_X11_call 1 := ⟨⟨rfl, (inC5 (i := 157) rfl rfl), (inC1 (i := 1) rfl rfl), ⟨nh_10.1, nh_10.2, pd_12⟩, by decide +kernel⟩, (inC5 (i := 155) rfl rfl), (inC5 (i := 156) rfl rfl)⟩
set_option maxRecDepth 20000 in
theorem mo_X11_put : MOv m_X11_put 1 := ⟨⟨rfl, (inC5 (i := 184) rfl rfl), (inC1 (i := 1) rfl rfl), ⟨nh_10.1, nh_10.2, pd_12⟩, by decide +kernel⟩, (inC5 (i := 182) rfl rfl), (inC5 (i := 183) rfl rfl)⟩
set_option maxRecDepth 20000 in
theorem mo_X11_forget : MOv m_X11_forget 1 := ⟨⟨rfl, (inC5 (i := 196) rfl rfl), (inC1 (i := 1) rfl rfl), ⟨nh_10.1, nh_10.2, pd_12⟩, by decide +kernel⟩, (inC5 (i := 194) rfl rfl), (inC5 (i := 195) rfl rfl)⟩
set_option maxRecDepth 20000 in
theorem mo_X11_recall : MOv m_X11_recall 1 := ⟨⟨rfl, (inC5 (i := 203) rfl rfl), (inC1 (i := 1) rfl rfl), ⟨nh_10.1, nh_10.2, pd_12⟩, by decide +kernel⟩, (inC5 (i := 201) rfl rfl), (inC5 (i := 202) rfl rfl)⟩
set_option maxRecDepth 20000 in
theorem mo_X11_hand : MOv m_X11_hand 2 := ⟨⟨rfl, (inC5 (i := 210) rfl rfl), (inC1 (i := 1) rfl rfl), ⟨nh_10.1, nh_10.2, pd_5⟩, by decide +kernel⟩, (inC5 (i := 208) rfl rfl), (inC5 (i := 209) rfl rfl)⟩
set_option maxRecDepth 20000 in
theorem mo_X11_lean : MOv m_X11_lean 2 := ⟨⟨rfl, (inC5 (i := 220) rfl rfl), (inC1 (i := 1) rfl rfl), ⟨nh_10.1, nh_10.2, pd_5⟩, by decide +kernel⟩, (inC5 (i := 218) rfl rfl), (inC5 (i := 219) rfl rfl)⟩
set_option maxRecDepth 20000 in
theorem mo_X11_free : MOv m_X11_free 2 := ⟨⟨rfl, (inC5 (i := 227) rfl rfl), (inC1 (i := 1) rfl rfl), ⟨nh_10.1, nh_10.2, pd_5⟩, by decide +kernel⟩, (inC5 (i := 225) rfl rfl), (inC5 (i := 226) rfl rfl)⟩
set_option maxRecDepth 20000 in
theorem mo_X11_days : MOv m_X11_days 1 := ⟨⟨rfl, (inC5 (i := 237) rfl rfl), (inC1 (i := 1) rfl rfl), ⟨nh_10.1, nh_10.2, pd_12⟩, by decide +kernel⟩, (inC5 (i := 235) rfl rfl), (inC5 (i := 236) rfl rfl)⟩
set_option maxRecDepth 20000 in
theorem mo_X11_parade : MOv m_X11_parade 1 := ⟨⟨rfl, (inC2 (i := 212) rfl rfl), (inC1 (i := 1) rfl rfl), ⟨nh_10.1, nh_10.2, pd_12⟩, by decide +kernel⟩, (inC2 (i := 210) rfl rfl), (inC2 (i := 211) rfl rfl)⟩
set_option maxRecDepth 20000 in
theorem mo_X11_can : MOv m_X11_can 0 := ⟨⟨rfl, (inC2 (i := 224) rfl rfl), (inC1 (i := 1) rfl rfl), ⟨nh_10.1, nh_10.2, pd_19⟩, by decide +kernel⟩, (inC2 (i := 222) rfl rfl), (inC2 (i := 223) rfl rfl)⟩
set_option maxRecDepth 20000 in
theorem mo_X11_greets : MOv m_X11_greets 2 := ⟨⟨rfl, (inC6 (i := 16) rfl rfl), (inC1 (i := 1) rfl rfl), ⟨nh_10.1, nh_10.2, pd_5⟩, by decide +kernel⟩, (inC6 (i := 14) rfl rfl), (inC6 (i := 15) rfl rfl)⟩
set_option maxRecDepth 20000 in
theorem mo_X11_where : MOv m_X11_where 2 := ⟨⟨rfl, (inC6 (i := 26) rfl rfl), (inC1 (i := 1) rfl rfl), ⟨nh_10.1, nh_10.2, pd_5⟩, by decide +kernel⟩, (inC6 (i := 24) rfl rfl), (inC6 (i := 25) rfl rfl)⟩
set_option maxRecDepth 20000 in
theorem mo_X11_crowd : MOv m_X11_crowd 3 := ⟨⟨rfl, (inC6 (i := 37) rfl rfl), (inC1 (i := 1) rfl rfl), ⟨nh_10.1, nh_10.2, pd_8⟩, by decide +kernel⟩, (inC6 (i := 35) rfl rfl), (inC6 (i := 36) rfl rfl)⟩
set_option maxRecDepth 20000 in
theorem mo_X11_most : MOv m_X11_most 0 := ⟨⟨rfl, (inC3 (i := 7) rfl rfl), (inC1 (i := 1) rfl rfl), ⟨nh_10.1, nh_10.2, pd_19⟩, by decide +kernel⟩, (inC3 (i := 5) rfl rfl), (inC3 (i := 6) rfl rfl)⟩
set_option maxRecDepth 20000 in
theorem mo_X11_does : MOv m_X11_does 2 := ⟨⟨rfl, (inC6 (i := 44) rfl rfl), (inC1 (i := 1) rfl rfl), ⟨nh_10.1, nh_10.2, pd_34⟩, by decide +kernel⟩, (inC6 (i := 42) rfl rfl), (inC6 (i := 43) rfl rfl)⟩
set_option maxRecDepth 20000 in
theorem mo_X11_soon : MOv m_X11_soon 1 := ⟨⟨rfl, (inC6 (i := 62) rfl rfl), (inC1 (i := 1) rfl rfl), ⟨nh_10.1, nh_10.2, pd_12⟩, by decide +kernel⟩, (inC6 (i := 60) rfl rfl), (inC6 (i := 61) rfl rfl)⟩
set_option maxRecDepth 20000 in
theorem mo_X11_longest : MOv m_X11_longest 0 := ⟨⟨rfl, (inC3 (i := 26) rfl rfl), (inC1 (i := 1) rfl rfl), ⟨nh_10.1, nh_10.2, pd_19⟩, by decide +kernel⟩, (inC3 (i := 24) rfl rfl), (inC3 (i := 25) rfl rfl)⟩
set_option maxRecDepth 20000 in
theorem mo_X11_ring : MOv m_X11_ring 0 := ⟨⟨rfl, (inC3 (i := 51) rfl rfl), (inC1 (i := 1) rfl rfl), ⟨nh_10.1, nh_10.2, pd_19⟩, by decide +kernel⟩, (inC3 (i := 49) rfl rfl), (inC3 (i := 50) rfl rfl)⟩
set_option maxRecDepth 20000 in
theorem mo_X11_before : MOv m_X11_before 1 := ⟨⟨rfl, (inC6 (i := 69) rfl rfl), (inC1 (i := 1) rfl rfl), ⟨nh_10.1, nh_10.2, pd_12⟩, by decide +kernel⟩, (inC6 (i := 67) rfl rfl), (inC6 (i := 68) rfl rfl)⟩
set_option maxRecDepth 20000 in
theorem mo_X11_after : MOv m_X11_after 1 := ⟨⟨rfl, (inC6 (i := 77) rfl rfl), (inC1 (i := 1) rfl rfl), ⟨nh_10.1, nh_10.2, pd_12⟩, by decide +kernel⟩, (inC6 (i := 75) rfl rfl), (inC6 (i := 76) rfl rfl)⟩
set_option maxRecDepth 20000 in
theorem mo_X11_depth : MOv m_X11_depth 1 := ⟨⟨rfl, (inC6 (i := 87) rfl rfl), (inC1 (i := 1) rfl rfl), ⟨nh_10.1, nh_10.2, pd_12⟩, by decide +kernel⟩, (inC6 (i := 85) rfl rfl), (inC6 (i := 86) rfl rfl)⟩
set_option maxRecDepth 20000 in
theorem mo_X11_young : MOv m_X11_young 1 := ⟨⟨rfl, (inC6 (i := 94) rfl rfl), (inC1 (i := 1) rfl rfl), ⟨nh_10.1, nh_10.2, pd_12⟩, by decide +kernel⟩, (inC6 (i := 92) rfl rfl), (inC6 (i := 93) rfl rfl)⟩
set_option maxRecDepth 20000 in
theorem mo_X11_older : MOv m_X11_older 1 := ⟨⟨rfl, (inC6 (i := 105) rfl rfl), (inC1 (i := 1) rfl rfl), ⟨nh_10.1, nh_10.2, pd_12⟩, by decide +kernel⟩, (inC6 (i := 103) rfl rfl), (inC6 (i := 104) rfl rfl)⟩
set_option maxRecDepth 20000 in
theorem mo_X11_whose : MOv m_X11_whose 0 := ⟨⟨rfl, (inC6 (i := 112) rfl rfl), (inC1 (i := 1) rfl rfl), ⟨nh_10.1, nh_10.2, pd_19⟩, by decide +kernel⟩, (inC6 (i := 110) rfl rfl), (inC6 (i := 111) rfl rfl)⟩
set_option maxRecDepth 20000 in
theorem mo_X11_ask : MOv m_X11_ask 0 := ⟨⟨rfl, (inC6 (i := 132) rfl rfl), (inC1 (i := 1) rfl rfl), ⟨nh_10.1, nh_10.2, pd_19⟩, by decide +kernel⟩, (inC6 (i := 130) rfl rfl), (inC6 (i := 131) rfl rfl)⟩
set_option maxRecDepth 20000 in
theorem mo_X11_gap : MOv m_X11_gap 0 := ⟨⟨rfl, (inC3 (i := 56) rfl rfl), (inC1 (i := 1) rfl rfl), ⟨nh_10.1, nh_10.2, pd_19⟩, by decide +kernel⟩, (inC3 (i := 54) rfl rfl), (inC3 (i := 55) rfl rfl)⟩
set_option maxRecDepth 20000 in
theorem mo_X11_lost : MOv m_X11_lost 0 := ⟨⟨rfl, (inC3 (i := 67) rfl rfl), (inC1 (i := 1) rfl rfl), ⟨nh_10.1, nh_10.2, pd_19⟩, by decide +kernel⟩, (inC3 (i := 65) rfl rfl), (inC3 (i := 66) rfl rfl)⟩
set_option maxRecDepth 20000 in
theorem mo_X11_missed : MOv m_X11_missed 0 := ⟨⟨rfl, (inC3 (i := 71) rfl rfl), (inC1 (i := 1) rfl rfl), ⟨nh_10.1, nh_10.2, pd_19⟩, by decide +kernel⟩, (inC3 (i := 69) rfl rfl), (inC3 (i := 70) rfl rfl)⟩
set_option maxRecDepth 20000 in
theorem mo_X11_swap : MOv m_X11_swap 2 := ⟨⟨rfl, (inC6 (i := 143) rfl rfl), (inC1 (i := 1) rfl rfl), ⟨nh_10.1, nh_10.2, pd_5⟩, by decide +kernel⟩, (inC6 (i := 141) rfl rfl), (inC6 (i := 142) rfl rfl)⟩
set_option maxRecDepth 20000 in
theorem mo_X11_rests : MOv m_X11_rests 3 := ⟨⟨rfl, (inC6 (i := 159) rfl rfl), (inC1 (i := 1) rfl rfl), ⟨nh_10.1, nh_10.2, pd_8⟩, by decide +kernel⟩, (inC6 (i := 157) rfl rfl), (inC6 (i := 158) rfl rfl)⟩
set_option maxRecDepth 20000 in
theorem mo_X11_sponsor : MOv m_X11_sponsor 0 := ⟨⟨rfl, (inC3 (i := 75) rfl rfl), (inC1 (i := 1) rfl rfl), ⟨nh_10.1, nh_10.2, pd_19⟩, by decide +kernel⟩, (inC3 (i := 73) rfl rfl), (inC3 (i := 74) rfl rfl)⟩
set_option maxRecDepth 20000 in
theorem mo_X11_idle : MOv m_X11_idle 0 := ⟨⟨rfl, (inC3 (i := 79) rfl rfl), (inC1 (i := 1) rfl rfl), ⟨nh_10.1, nh_10.2, pd_19⟩, by decide +kernel⟩, (inC3 (i := 77) rfl rfl), (inC3 (i := 78) rfl rfl)⟩
set_option maxRecDepth 20000 in
theorem mo_X11_worst : MOv m_X11_worst 0 := ⟨⟨rfl, (inC3 (i := 92) rfl rfl), (inC1 (i := 1) rfl rfl), ⟨nh_10.1, nh_10.2, pd_19⟩, by decide +kernel⟩, (inC3 (i := 90) rfl rfl), (inC3 (i := 91) rfl rfl)⟩
set_option maxRecDepth 20000 in
theorem mo_X11_alike : MOv m_X11_alike 0 := ⟨⟨rfl, (inC3 (i := 97) rfl rfl), (inC1 (i := 1) rfl rfl), ⟨nh_10.1, nh_10.2, pd_19⟩, by decide +kernel⟩, (inC3 (i := 95) rfl rfl), (inC3 (i := 96) rfl rfl)⟩
set_option maxRecDepth 20000 in
theorem mo_X11_odds : MOv m_X11_odds 2 := ⟨⟨rfl, (inC6 (i := 175) rfl rfl), (inC1 (i := 1) rfl rfl), ⟨nh_10.1, nh_10.2, pd_5⟩, by decide +kernel⟩, (inC6 (i := 173) rfl rfl), (inC6 (i := 174) rfl rfl)⟩
set_option maxRecDepth 20000 in
theorem mo_X11_spare : MOv m_X11_spare 2 := ⟨⟨rfl, (inC6 (i := 189) rfl rfl), (inC1 (i := 1) rfl rfl), ⟨nh_10.1, nh_10.2, pd_5⟩, by decide +kernel⟩, (inC6 (i := 187) rfl rfl), (inC6 (i := 188) rfl rfl)⟩
set_option maxRecDepth 20000 in
theorem mo_X11_done : MOv m_X11_done 1 := ⟨⟨rfl, (inC6 (i := 200) rfl rfl), (inC1 (i := 1) rfl rfl), ⟨nh_10.1, nh_10.2, pd_12⟩, by decide +kernel⟩, (inC6 (i := 198) rfl rfl), (inC6 (i := 199) rfl rfl)⟩
set_option maxRecDepth 20000 in
theorem mo_X11_all : MOv m_X11_all 0 := ⟨⟨rfl, (inC3 (i := 105) rfl rfl), (inC1 (i := 1) rfl rfl), ⟨nh_10.1, nh_10.2, pd_19⟩, by decide +kernel⟩, (inC3 (i := 103) rfl rfl), (inC3 (i := 104) rfl rfl)⟩
set_option maxRecDepth 20000 in
theorem mo_X11_help : MOv m_X11_help 0 := ⟨⟨rfl, (inC3 (i := 158) rfl rfl), (inC1 (i := 1) rfl rfl), ⟨nh_10.1, nh_10.2, pd_19⟩, by decide +kernel⟩, (inC3 (i := 156) rfl rfl), (inC3 (i := 157) rfl rfl)⟩
set_option maxRecDepth 20000 in
theorem mo_X11_crux : MOv m_X11_crux 0 := ⟨⟨rfl, (inC3 (i := 163) rfl rfl), (inC1 (i := 1) rfl rfl), ⟨nh_10.1, nh_10.2, pd_19⟩, by decide +kernel⟩, (inC3 (i := 161) rfl rfl), (inC3 (i := 162) rfl rfl)⟩
set_option maxRecDepth 20000 in
theorem mo_X11_sick : MOv m_X11_sick 1 := ⟨⟨rfl, (inC6 (i := 211) rfl rfl), (inC1 (i := 1) rfl rfl), ⟨nh_10.1, nh_10.2, pd_12⟩, by decide +kernel⟩, (inC6 (i := 209) rfl rfl), (inC6 (i := 210) rfl rfl)⟩
set_option maxRecDepth 20000 in
theorem mo_X11_ahead : MOv m_X11_ahead 3 := ⟨⟨rfl, (inC6 (i := 218) rfl rfl), (inC1 (i := 1) rfl rfl), ⟨nh_10.1, nh_10.2, pd_8⟩, by decide +kernel⟩, (inC6 (i := 216) rfl rfl), (inC6 (i := 217) rfl rfl)⟩
set_option maxRecDepth 20000 in
theorem mo_X11_trial : MOv m_X11_trial 2 := ⟨⟨rfl, (inC6 (i := 225) rfl rfl), (inC1 (i := 1) rfl rfl), ⟨nh_10.1, nh_10.2, pd_34⟩, by decide +kernel⟩, (inC6 (i := 223) rfl rfl), (inC6 (i := 224) rfl rfl)⟩
set_option maxRecDepth 20000 in
theorem mo_X11_span : MOv m_X11_span 2 := ⟨⟨rfl, (inC6 (i := 236) rfl rfl), (inC1 (i := 1) rfl rfl), ⟨nh_10.1, nh_10.2, pd_34⟩, by decide +kernel⟩, (inC6 (i := 234) rfl rfl), (inC6 (i := 235) rfl rfl)⟩
set_option maxRecDepth 20000 in
theorem mo_X11_led : MOv m_X11_led 2 := ⟨⟨rfl, (inC7 (i := 3) rfl rfl), (inC1 (i := 1) rfl rfl), ⟨nh_10.1, nh_10.2, pd_34⟩, by decide +kernel⟩, (inC7 (i := 1) rfl rfl), (inC7 (i := 2) rfl rfl)⟩
set_option maxRecDepth 20000 in
theorem mo_X11_log : MOv m_X11_log 2 := ⟨⟨rfl, (inC7 (i := 23) rfl rfl), (inC1 (i := 1) rfl rfl), ⟨nh_10.1, nh_10.2, pd_5⟩, by decide +kernel⟩, (inC7 (i := 21) rfl rfl), (inC7 (i := 22) rfl rfl)⟩
set_option maxRecDepth 20000 in
theorem mo_X11_seed : MOv m_X11_seed 1 := ⟨⟨rfl, (inC3 (i := 168) rfl rfl), (inC1 (i := 1) rfl rfl), ⟨nh_10.1, nh_10.2, pd_12⟩, by decide +kernel⟩, (inC3 (i := 166) rfl rfl), (inC3 (i := 167) rfl rfl)⟩
set_option maxRecDepth 20000 in
theorem mo_X11_undo : MOv m_X11_undo 0 := ⟨⟨rfl, (inC3 (i := 172) rfl rfl), (inC1 (i := 1) rfl rfl), ⟨nh_10.1, nh_10.2, pd_20⟩, by decide +kernel⟩, (inC3 (i := 170) rfl rfl), (inC3 (i := 171) rfl rfl)⟩
set_option maxRecDepth 20000 in
theorem mo_X11_image : MOv m_X11_image 0 := ⟨⟨rfl, (inC3 (i := 190) rfl rfl), (inC1 (i := 1) rfl rfl), ⟨nh_10.1, nh_10.2, pd_0⟩, by decide +kernel⟩, (inC3 (i := 188) rfl rfl), (inC3 (i := 189) rfl rfl)⟩
set_option maxRecDepth 20000 in
theorem mo_X11_back : MOv m_X11_back 0 := ⟨⟨rfl, (inC3 (i := 199) rfl rfl), (inC1 (i := 1) rfl rfl), ⟨nh_10.1, nh_10.2, pd_20⟩, by decide +kernel⟩, (inC3 (i := 197) rfl rfl), (inC3 (i := 198) rfl rfl)⟩
set_option maxRecDepth 20000 in
theorem mo_X11_needPerson : MOv m_X11_needPerson 1 := ⟨⟨rfl, (inC5 (i := 96) rfl rfl), (inC1 (i := 1) rfl rfl), ⟨nh_10.1, nh_10.2, pd_15⟩, by decide +kernel⟩, (inC5 (i := 95) rfl rfl), inT2 (i := 32) rfl rfl⟩
set_option maxRecDepth 20000 in
theorem mo_X11_needDuty : MOv m_X11_needDuty 1 := ⟨⟨rfl, (inC5 (i := 145) rfl rfl), (inC1 (i := 1) rfl rfl), ⟨nh_10.1, nh_10.2, pd_15⟩, by decide +kernel⟩, (inC5 (i := 144) rfl rfl), inT2 (i := 34) rfl rfl⟩
set_option maxRecDepth 20000 in
theorem mo_X11_needKerb : MOs m_X11_needKerb 1 := ⟨⟨rfl, (inC6 (i := 19) rfl rfl), (inC1 (i := 1) rfl rfl), ⟨nh_10.1, nh_10.2, pd_15⟩, by decide +kernel⟩, (inC6 (i := 18) rfl rfl)⟩
set_option maxRecDepth 20000 in
theorem mo_X11_needNumber : MOs m_X11_needNumber 3 := ⟨⟨rfl, (inC5 (i := 230) rfl rfl), (inC1 (i := 1) rfl rfl), ⟨nh_10.1, nh_10.2, pd_35⟩, by decide +kernel⟩, (inC5 (i := 229) rfl rfl)⟩
set_option maxRecDepth 20000 in
theorem mo_X11_needTwo : MOs m_X11_needTwo 2 := ⟨⟨rfl, (inC5 (i := 213) rfl rfl), (inC1 (i := 1) rfl rfl), ⟨nh_10.1, nh_10.2, pd_14⟩, by decide +kernel⟩, (inC5 (i := 212) rfl rfl)⟩
set_option maxRecDepth 20000 in
theorem mo_X11_needState : MOv m_X11_needState 2 := ⟨⟨rfl, (inC5 (i := 188) rfl rfl), (inC1 (i := 1) rfl rfl), ⟨nh_10.1, nh_10.2, pd_14⟩, by decide +kernel⟩, (inC5 (i := 187) rfl rfl), inT2 (i := 36) rfl rfl⟩
set_option maxRecDepth 20000 in
theorem mo_X11_pastAt : MOv m_X11_pastAt 1 := ⟨⟨rfl, (inC3 (i := 176) rfl rfl), (inC1 (i := 1) rfl rfl), ⟨nh_10.1, nh_10.2, pd_36⟩, by decide +kernel⟩, (inC3 (i := 175) rfl rfl), inT2 (i := 10) rfl rfl⟩
set_option maxRecDepth 20000 in
theorem mo_X11_rememberAct : MOv m_X11_rememberAct 0 := ⟨⟨rfl, (inC5 (i := 177) rfl rfl), (inC1 (i := 1) rfl rfl), ⟨nh_10.1, nh_10.2, pd_0⟩, by decide +kernel⟩, (inC5 (i := 176) rfl rfl), inT2 (i := 35) rfl rfl⟩
set_option maxRecDepth 20000 in
theorem mo_X11_letParadeGoBy : MOv m_X11_letParadeGoBy 0 := ⟨⟨rfl, (inC6 (i := 2) rfl rfl), (inC1 (i := 1) rfl rfl), ⟨nh_10.1, nh_10.2, pd_0⟩, by decide +kernel⟩, (inC6 (i := 1) rfl rfl), inT2 (i := 37) rfl rfl⟩
set_option maxRecDepth 20000 in
theorem mo_X11_shameTriedOut : MOv m_X11_shameTriedOut 2 := ⟨⟨rfl, (inC6 (i := 229) rfl rfl), (inC1 (i := 1) rfl rfl), ⟨nh_10.1, nh_10.2, pd_5⟩, by decide +kernel⟩, (inC6 (i := 228) rfl rfl), inT2 (i := 41) rfl rfl⟩
set_option maxRecDepth 20000 in
theorem mo_X11_shameOfWaiting : MOv m_X11_shameOfWaiting 1 := ⟨⟨rfl, (inC2 (i := 169) rfl rfl), (inC1 (i := 1) rfl rfl), ⟨nh_10.1, nh_10.2, pd_1⟩, by decide +kernel⟩, (inC2 (i := 168) rfl rfl), inT2 (i := 0) rfl rfl⟩
set_option maxRecDepth 20000 in
theorem mo_X11_shareOf : MOv m_X11_shareOf 1 := ⟨⟨rfl, (inC5 (i := 119) rfl rfl), (inC1 (i := 1) rfl rfl), ⟨nh_10.1, nh_10.2, pd_12⟩, by decide +kernel⟩, (inC5 (i := 118) rfl rfl), inT2 (i := 33) rfl rfl⟩
set_option maxRecDepth 20000 in
theorem mo_X11_isGap : MOv m_X11_isGap 1 := ⟨⟨rfl, (inC3 (i := 60) rfl rfl), (inC1 (i := 1) rfl rfl), ⟨nh_10.1, nh_10.2, pd_18⟩, by decide +kernel⟩, (inC3 (i := 59) rfl rfl), inT2 (i := 6) rfl rfl⟩
set_option maxRecDepth 20000 in
theorem mo_X11_takeWhoFits : MOv m_X11_takeWhoFits 0 := ⟨⟨rfl, (inC6 (i := 116) rfl rfl), (inC1 (i := 1) rfl rfl), ⟨nh_10.1, nh_10.2, pd_19⟩, by decide +kernel⟩, (inC6 (i := 115) rfl rfl), inT2 (i := 38) rfl rfl⟩
set_option maxRecDepth 20000 in
theorem mo_X11_whoFits : MOv m_X11_whoFits 0 := ⟨⟨rfl, (inC6 (i := 120) rfl rfl), (inC1 (i := 1) rfl rfl), ⟨nh_10.1, nh_10.2, pd_19⟩, by decide +kernel⟩, (inC6 (i := 119) rfl rfl), inT2 (i := 39) rfl rfl⟩
set_option maxRecDepth 20000 in
theorem mo_X11_kerbToAskFor : MOv m_X11_kerbToAskFor 1 := ⟨⟨rfl, (inC6 (i := 136) rfl rfl), (inC1 (i := 1) rfl rfl), ⟨nh_10.1, nh_10.2, pd_12⟩, by decide +kernel⟩, (inC6 (i := 135) rfl rfl), inT2 (i := 40) rfl rfl⟩
set_option maxRecDepth 20000 in
theorem mo_X11_needsOf : MOs m_X11_needsOf 2 := ⟨⟨rfl, (inC5 (i := 115) rfl rfl), (inC1 (i := 1) rfl rfl), ⟨nh_10.1, nh_10.2, pd_5⟩, by decide +kernel⟩, (inC5 (i := 114) rfl rfl)⟩
set_option maxRecDepth 20000 in
theorem mo_X11_at : MOs m_X11_at 2 := ⟨⟨rfl, (inC2 (i := 146) rfl rfl), (inC1 (i := 1) rfl rfl), ⟨nh_10.1, nh_10.2, pd_37⟩, by decide +kernel⟩, (inC2 (i := 145) rfl rfl)⟩
set_option maxRecDepth 20000 in
theorem mo_X11_setAt : MOs m_X11_setAt 3 := ⟨⟨rfl, (inC2 (i := 193) rfl rfl), (inC1 (i := 1) rfl rfl), ⟨nh_10.1, nh_10.2, pd_38⟩, by decide +kernel⟩, (inC2 (i := 192) rfl rfl)⟩
set_option maxRecDepth 20000 in
theorem mo_X11_copyRow : MOs m_X11_copyRow 2 := ⟨⟨rfl, (inC3 (i := 112) rfl rfl), (inC1 (i := 1) rfl rfl), ⟨nh_10.1, nh_10.2, pd_39⟩, by decide +kernel⟩, (inC3 (i := 111) rfl rfl)⟩
set_option maxRecDepth 20000 in
theorem mo_X11_bit : MOs m_X11_bit 1 := ⟨⟨rfl, (inC2 (i := 149) rfl rfl), (inC1 (i := 1) rfl rfl), ⟨nh_10.1, nh_10.2, pd_12⟩, by decide +kernel⟩, (inC2 (i := 148) rfl rfl)⟩
set_option maxRecDepth 20000 in
theorem mo_X11_has : MOs m_X11_has 2 := ⟨⟨rfl, (inC2 (i := 176) rfl rfl), (inC1 (i := 1) rfl rfl), ⟨nh_10.1, nh_10.2, pd_23⟩, by decide +kernel⟩, (inC2 (i := 175) rfl rfl)⟩
set_option maxRecDepth 20000 in
theorem mo_X11_sumOver : MOs m_X11_sumOver 2 := ⟨⟨rfl, (inC3 (i := 46) rfl rfl), (inC1 (i := 1) rfl rfl), ⟨nh_10.1, nh_10.2, pd_37⟩, by decide +kernel⟩, (inC3 (i := 45) rfl rfl)⟩
set_option maxRecDepth 20000 in
set_option maxRecDepth 20000 in
theorem mo_X12_thrown : MOv m_X12_thrown 0 := ⟨⟨rfl, (inC7 (i := 28) rfl rfl), (inC1 (i := 11) rfl rfl), ⟨nh_11.1, nh_11.2, pd_19⟩, by decide +kernel⟩, (inC7 (i := 26) rfl rfl), (inC7 (i := 27) rfl rfl)⟩
theorem mo_X12_throwsIf : MOv m_X12_throwsIf 2 := ⟨⟨rfl, (inC8 (i := 39) rfl rfl), (inC1 (i := 11) rfl rfl), ⟨nh_11.1, nh_11.2, pd_40⟩, by decide +kernel⟩, (inC8 (i := 38) rfl rfl), inT2 (i := 71) rfl rfl⟩
set_option maxRecDepth 20000 in
theorem mo_X12_in : MOs m_X12_in 3 := ⟨⟨rfl, (inC8 (i := 94) rfl rfl), (inC1 (i := 11) rfl rfl), ⟨nh_11.1, nh_11.2, pd_41⟩, by decide +kernel⟩, (inC8 (i := 93) rfl rfl)⟩
set_option maxRecDepth 20000 in
theorem mo_X12_has : MOs m_X12_has 2 := ⟨⟨rfl, (inC8 (i := 125) rfl rfl), (inC1 (i := 11) rfl rfl), ⟨nh_11.1, nh_11.2, pd_23⟩, by decide +kernel⟩, (inC8 (i := 124) rfl rfl)⟩
set_option maxRecDepth 20000 in
theorem mo_X12_init : MOi m_X12_init 0 := ⟨⟨rfl, (inC7 (i := 33) rfl rfl), (inC1 (i := 11) rfl rfl), ⟨nh_11.1, nh_11.2, pd_0⟩, by decide +kernel⟩, (inC7 (i := 32) rfl rfl), rfl, rfl⟩
set_option maxRecDepth 20000 in
theorem mo_X12_image : MOv m_X12_image 0 := ⟨⟨rfl, (inC7 (i := 100) rfl rfl), (inC1 (i := 11) rfl rfl), ⟨nh_11.1, nh_11.2, pd_0⟩, by decide +kernel⟩, (inC7 (i := 98) rfl rfl), (inC7 (i := 99) rfl rfl)⟩
set_option maxRecDepth 20000 in
theorem mo_X12_back : MOv m_X12_back 0 := ⟨⟨rfl, (inC7 (i := 104) rfl rfl), (inC1 (i := 11) rfl rfl), ⟨nh_11.1, nh_11.2, pd_20⟩, by decide +kernel⟩, (inC7 (i := 102) rfl rfl), (inC7 (i := 103) rfl rfl)⟩
set_option maxRecDepth 20000 in
theorem mo_X12_remembers : MOv m_X12_remembers 0 := ⟨⟨rfl, (inC8 (i := 208) rfl rfl), (inC1 (i := 11) rfl rfl), ⟨nh_11.1, nh_11.2, pd_0⟩, by decide +kernel⟩, (inC8 (i := 207) rfl rfl), inT2 (i := 98) rfl rfl⟩
set_option maxRecDepth 20000 in
theorem mo_X12_undo : MOv m_X12_undo 0 := ⟨⟨rfl, (inC7 (i := 108) rfl rfl), (inC1 (i := 11) rfl rfl), ⟨nh_11.1, nh_11.2, pd_20⟩, by decide +kernel⟩, (inC7 (i := 106) rfl rfl), (inC7 (i := 107) rfl rfl)⟩
set_option maxRecDepth 20000 in
theorem mo_X12_people : MOv m_X12_people 0 := ⟨⟨rfl, (inC7 (i := 167) rfl rfl), (inC1 (i := 11) rfl rfl), ⟨nh_11.1, nh_11.2, pd_19⟩, by decide +kernel⟩, (inC7 (i := 166) rfl rfl), inT2 (i := 51) rfl rfl⟩
set_option maxRecDepth 20000 in
theorem mo_X12_duties : MOv m_X12_duties 0 := ⟨⟨rfl, (inC7 (i := 189) rfl rfl), (inC1 (i := 11) rfl rfl), ⟨nh_11.1, nh_11.2, pd_19⟩, by decide +kernel⟩, (inC7 (i := 188) rfl rfl), inT2 (i := 55) rfl rfl⟩
set_option maxRecDepth 20000 in
theorem mo_X12_personAt : MOs m_X12_personAt 2 := ⟨⟨rfl, (inC7 (i := 180) rfl rfl), (inC1 (i := 11) rfl rfl), ⟨nh_11.1, nh_11.2, pd_5⟩, by decide +kernel⟩, (inC7 (i := 179) rfl rfl)⟩
set_option maxRecDepth 20000 in
theorem mo_X12_ofPerson : MOv m_X12_ofPerson 2 := ⟨⟨rfl, (inC8 (i := 164) rfl rfl), (inC1 (i := 11) rfl rfl), ⟨nh_11.1, nh_11.2, pd_5⟩, by decide +kernel⟩, (inC8 (i := 163) rfl rfl), inT2 (i := 90) rfl rfl⟩
set_option maxRecDepth 20000 in
theorem mo_X12_at : MOs m_X12_at 2 := ⟨⟨rfl, (inC7 (i := 201) rfl rfl), (inC1 (i := 11) rfl rfl), ⟨nh_11.1, nh_11.2, pd_5⟩, by decide +kernel⟩, (inC7 (i := 200) rfl rfl)⟩
set_option maxRecDepth 20000 in
theorem mo_X12_of : MOv m_X12_of 2 := ⟨⟨rfl, (inC7 (i := 214) rfl rfl), (inC1 (i := 11) rfl rfl), ⟨nh_11.1, nh_11.2, pd_5⟩, by decide +kernel⟩, (inC7 (i := 213) rfl rfl), inT2 (i := 59) rfl rfl⟩
set_option maxRecDepth 20000 in
theorem mo_X12_isWaiting : MOv m_X12_isWaiting 1 := ⟨⟨rfl, (inC7 (i := 210) rfl rfl), (inC1 (i := 11) rfl rfl), ⟨nh_11.1, nh_11.2, pd_18⟩, by decide +kernel⟩, (inC7 (i := 209) rfl rfl), inT2 (i := 58) rfl rfl⟩
set_option maxRecDepth 20000 in
theorem mo_X12_isDone : MOv m_X12_isDone 1 := ⟨⟨rfl, (inC8 (i := 79) rfl rfl), (inC1 (i := 11) rfl rfl), ⟨nh_11.1, nh_11.2, pd_18⟩, by decide +kernel⟩, (inC8 (i := 78) rfl rfl), inT2 (i := 78) rfl rfl⟩
set_option maxRecDepth 20000 in
theorem mo_X12_isForgotten : MOv m_X12_isForgotten 1 := ⟨⟨rfl, (inC8 (i := 232) rfl rfl), (inC1 (i := 11) rfl rfl), ⟨nh_11.1, nh_11.2, pd_18⟩, by decide +kernel⟩, (inC8 (i := 231) rfl rfl), inT2 (i := 101) rfl rfl⟩
set_option maxRecDepth 20000 in
theorem mo_X12_noPerson : MOv m_X12_noPerson 1 := ⟨⟨rfl, (inC8 (i := 136) rfl rfl), (inC1 (i := 11) rfl rfl), ⟨nh_11.1, nh_11.2, pd_18⟩, by decide +kernel⟩, (inC8 (i := 135) rfl rfl), inT2 (i := 83) rfl rfl⟩
set_option maxRecDepth 20000 in
theorem mo_X12_noDuty : MOv m_X12_noDuty 1 := ⟨⟨rfl, (inC8 (i := 91) rfl rfl), (inC1 (i := 11) rfl rfl), ⟨nh_11.1, nh_11.2, pd_18⟩, by decide +kernel⟩, (inC8 (i := 90) rfl rfl), inT2 (i := 80) rfl rfl⟩
set_option maxRecDepth 20000 in
theorem mo_X12_noKerb : MOs m_X12_noKerb 1 := ⟨⟨rfl, (inC8 (i := 97) rfl rfl), (inC1 (i := 11) rfl rfl), ⟨nh_11.1, nh_11.2, pd_18⟩, by decide +kernel⟩, (inC8 (i := 96) rfl rfl)⟩
set_option maxRecDepth 20000 in
theorem mo_X12_drawn : MOv m_X12_drawn 1 := ⟨⟨rfl, (inC9 (i := 20) rfl rfl), (inC1 (i := 11) rfl rfl), ⟨nh_11.1, nh_11.2, pd_12⟩, by decide +kernel⟩, (inC9 (i := 19) rfl rfl), inT2 (i := 104) rfl rfl⟩
set_option maxRecDepth 20000 in
theorem mo_X12_feed : MOv m_X12_feed 5 := ⟨⟨rfl, (inC7 (i := 112) rfl rfl), (inC1 (i := 11) rfl rfl), ⟨nh_11.1, nh_11.2, pd_33⟩, by decide +kernel⟩, (inC7 (i := 110) rfl rfl), (inC7 (i := 111) rfl rfl)⟩
set_option maxRecDepth 20000 in
theorem mo_X12_end : MOv m_X12_end 1 := ⟨⟨rfl, (inC7 (i := 116) rfl rfl), (inC1 (i := 11) rfl rfl), ⟨nh_11.1, nh_11.2, pd_18⟩, by decide +kernel⟩, (inC7 (i := 114) rfl rfl), (inC7 (i := 115) rfl rfl)⟩
set_option maxRecDepth 20000 in
theorem mo_X12_isAt : MOv m_X12_isAt 2 := ⟨⟨rfl, (inC7 (i := 140) rfl rfl), (inC1 (i := 11) rfl rfl), ⟨nh_11.1, nh_11.2, pd_23⟩, by decide +kernel⟩, (inC7 (i := 139) rfl rfl), inT2 (i := 45) rfl rfl⟩
set_option maxRecDepth 20000 in
theorem mo_X12_blanks : MOv m_X12_blanks 0 := ⟨⟨rfl, (inC7 (i := 136) rfl rfl), (inC1 (i := 11) rfl rfl), ⟨nh_11.1, nh_11.2, pd_0⟩, by decide +kernel⟩, (inC7 (i := 135) rfl rfl), inT2 (i := 44) rfl rfl⟩
set_option maxRecDepth 20000 in
theorem mo_X12_letters : MOv m_X12_letters 0 := ⟨⟨rfl, (inC7 (i := 148) rfl rfl), (inC1 (i := 11) rfl rfl), ⟨nh_11.1, nh_11.2, pd_0⟩, by decide +kernel⟩, (inC7 (i := 147) rfl rfl), inT2 (i := 47) rfl rfl⟩
set_option maxRecDepth 20000 in
theorem mo_X12_isWord : MOv m_X12_isWord 1 := ⟨⟨rfl, (inC7 (i := 157) rfl rfl), (inC1 (i := 11) rfl rfl), ⟨nh_11.1, nh_11.2, pd_42⟩, by decide +kernel⟩, (inC7 (i := 156) rfl rfl), inT2 (i := 49) rfl rfl⟩
set_option maxRecDepth 20000 in
theorem mo_X12_passes : MOv m_X12_passes 1 := ⟨⟨rfl, (inC7 (i := 196) rfl rfl), (inC1 (i := 11) rfl rfl), ⟨nh_11.1, nh_11.2, pd_42⟩, by decide +kernel⟩, (inC7 (i := 195) rfl rfl), inT2 (i := 56) rfl rfl⟩
set_option maxRecDepth 20000 in
theorem mo_X12_sign : MOv m_X12_sign 1 := ⟨⟨rfl, (inC8 (i := 7) rfl rfl), (inC1 (i := 11) rfl rfl), ⟨nh_11.1, nh_11.2, pd_18⟩, by decide +kernel⟩, (inC8 (i := 6) rfl rfl), inT2 (i := 65) rfl rfl⟩
set_option maxRecDepth 20000 in
theorem mo_X12_number : MOv m_X12_number 2 := ⟨⟨rfl, (inC7 (i := 176) rfl rfl), (inC1 (i := 11) rfl rfl), ⟨nh_11.1, nh_11.2, pd_5⟩, by decide +kernel⟩, (inC7 (i := 175) rfl rfl), inT2 (i := 53) rfl rfl⟩
set_option maxRecDepth 20000 in
theorem mo_X12_numberBehind : MOv m_X12_numberBehind 3 := ⟨⟨rfl, (inC7 (i := 172) rfl rfl), (inC1 (i := 11) rfl rfl), ⟨nh_11.1, nh_11.2, pd_43⟩, by decide +kernel⟩, (inC7 (i := 171) rfl rfl), inT2 (i := 52) rfl rfl⟩
set_option maxRecDepth 20000 in
theorem mo_X12_fault : MOv m_X12_fault 0 := ⟨⟨rfl, (inC7 (i := 120) rfl rfl), (inC1 (i := 11) rfl rfl), ⟨nh_11.1, nh_11.2, pd_19⟩, by decide +kernel⟩, (inC7 (i := 118) rfl rfl), (inC7 (i := 119) rfl rfl)⟩
set_option maxRecDepth 20000 in
theorem mo_X12_uses : MOv m_X12_uses 0 := ⟨⟨rfl, (inC7 (i := 132) rfl rfl), (inC1 (i := 11) rfl rfl), ⟨nh_11.1, nh_11.2, pd_0⟩, by decide +kernel⟩, (inC7 (i := 131) rfl rfl), inT2 (i := 43) rfl rfl⟩
set_option maxRecDepth 20000 in
theorem mo_X12_readNumber : MOv m_X12_readNumber 3 := ⟨⟨rfl, (inC7 (i := 219) rfl rfl), (inC1 (i := 11) rfl rfl), ⟨nh_11.1, nh_11.2, pd_41⟩, by decide +kernel⟩, (inC7 (i := 218) rfl rfl), inT2 (i := 60) rfl rfl⟩
set_option maxRecDepth 20000 in
theorem mo_X12_readPerson : MOv m_X12_readPerson 0 := ⟨⟨rfl, (inC7 (i := 163) rfl rfl), (inC1 (i := 11) rfl rfl), ⟨nh_11.1, nh_11.2, pd_20⟩, by decide +kernel⟩, (inC7 (i := 162) rfl rfl), inT2 (i := 50) rfl rfl⟩
set_option maxRecDepth 20000 in
theorem mo_X12_readDuty : MOv m_X12_readDuty 0 := ⟨⟨rfl, (inC7 (i := 185) rfl rfl), (inC1 (i := 11) rfl rfl), ⟨nh_11.1, nh_11.2, pd_20⟩, by decide +kernel⟩, (inC7 (i := 184) rfl rfl), inT2 (i := 54) rfl rfl⟩
set_option maxRecDepth 20000 in
theorem mo_X12_readForgotten : MOv m_X12_readForgotten 0 := ⟨⟨rfl, (inC7 (i := 206) rfl rfl), (inC1 (i := 11) rfl rfl), ⟨nh_11.1, nh_11.2, pd_20⟩, by decide +kernel⟩, (inC7 (i := 205) rfl rfl), inT2 (i := 57) rfl rfl⟩
set_option maxRecDepth 20000 in
theorem mo_X12_readStreetLine : MOv m_X12_readStreetLine 0 := ⟨⟨rfl, (inC7 (i := 152) rfl rfl), (inC1 (i := 11) rfl rfl), ⟨nh_11.1, nh_11.2, pd_20⟩, by decide +kernel⟩, (inC7 (i := 151) rfl rfl), inT2 (i := 48) rfl rfl⟩
set_option maxRecDepth 20000 in
theorem mo_X12_emits : MOv m_X12_emits 2 := ⟨⟨rfl, (inC8 (i := 12) rfl rfl), (inC1 (i := 11) rfl rfl), ⟨nh_11.1, nh_11.2, pd_14⟩, by decide +kernel⟩, (inC8 (i := 11) rfl rfl), inT2 (i := 66) rfl rfl⟩
set_option maxRecDepth 20000 in
theorem mo_X12_wordOfPart : MOv m_X12_wordOfPart 0 := ⟨⟨rfl, (inC8 (i := 30) rfl rfl), (inC1 (i := 11) rfl rfl), ⟨nh_11.1, nh_11.2, pd_19⟩, by decide +kernel⟩, (inC8 (i := 29) rfl rfl), inT2 (i := 70) rfl rfl⟩
set_option maxRecDepth 20000 in
theorem mo_X12_readPart : MOv m_X12_readPart 0 := ⟨⟨rfl, (inC8 (i := 26) rfl rfl), (inC1 (i := 11) rfl rfl), ⟨nh_11.1, nh_11.2, pd_20⟩, by decide +kernel⟩, (inC8 (i := 25) rfl rfl), inT2 (i := 69) rfl rfl⟩
set_option maxRecDepth 20000 in
theorem mo_X12_readSum : MOv m_X12_readSum 0 := ⟨⟨rfl, (inC8 (i := 22) rfl rfl), (inC1 (i := 11) rfl rfl), ⟨nh_11.1, nh_11.2, pd_20⟩, by decide +kernel⟩, (inC8 (i := 21) rfl rfl), inT2 (i := 68) rfl rfl⟩
set_option maxRecDepth 20000 in
theorem mo_X12_readTag : MOv m_X12_readTag 0 := ⟨⟨rfl, (inC8 (i := 16) rfl rfl), (inC1 (i := 11) rfl rfl), ⟨nh_11.1, nh_11.2, pd_20⟩, by decide +kernel⟩, (inC8 (i := 15) rfl rfl), inT2 (i := 67) rfl rfl⟩
set_option maxRecDepth 20000 in
theorem mo_X12_readAtom : MOv m_X12_readAtom 0 := ⟨⟨rfl, (inC8 (i := 3) rfl rfl), (inC1 (i := 11) rfl rfl), ⟨nh_11.1, nh_11.2, pd_20⟩, by decide +kernel⟩, (inC8 (i := 2) rfl rfl), inT2 (i := 64) rfl rfl⟩
set_option maxRecDepth 20000 in
theorem mo_X12_readAllOf : MOv m_X12_readAllOf 0 := ⟨⟨rfl, (inC7 (i := 239) rfl rfl), (inC1 (i := 11) rfl rfl), ⟨nh_11.1, nh_11.2, pd_20⟩, by decide +kernel⟩, (inC7 (i := 238) rfl rfl), inT2 (i := 63) rfl rfl⟩
set_option maxRecDepth 20000 in
theorem mo_X12_readCond : MOv m_X12_readCond 0 := ⟨⟨rfl, (inC7 (i := 235) rfl rfl), (inC1 (i := 11) rfl rfl), ⟨nh_11.1, nh_11.2, pd_20⟩, by decide +kernel⟩, (inC7 (i := 234) rfl rfl), inT2 (i := 62) rfl rfl⟩
set_option maxRecDepth 20000 in
theorem mo_X12_readLawLine : MOv m_X12_readLawLine 1 := ⟨⟨rfl, (inC7 (i := 227) rfl rfl), (inC1 (i := 11) rfl rfl), ⟨nh_11.1, nh_11.2, pd_18⟩, by decide +kernel⟩, (inC7 (i := 226) rfl rfl), inT2 (i := 61) rfl rfl⟩
set_option maxRecDepth 20000 in
theorem mo_X12_readLine : MOv m_X12_readLine 2 := ⟨⟨rfl, (inC7 (i := 144) rfl rfl), (inC1 (i := 11) rfl rfl), ⟨nh_11.1, nh_11.2, pd_40⟩, by decide +kernel⟩, (inC7 (i := 143) rfl rfl), inT2 (i := 46) rfl rfl⟩
set_option maxRecDepth 20000 in
theorem mo_X12_readAll : MOv m_X12_readAll 1 := ⟨⟨rfl, (inC7 (i := 128) rfl rfl), (inC1 (i := 11) rfl rfl), ⟨nh_11.1, nh_11.2, pd_44⟩, by decide +kernel⟩, (inC7 (i := 127) rfl rfl), inT2 (i := 42) rfl rfl⟩
set_option maxRecDepth 20000 in
theorem mo_X12_street : MOv m_X12_street 0 := ⟨⟨rfl, (inC7 (i := 124) rfl rfl), (inC1 (i := 11) rfl rfl), ⟨nh_11.1, nh_11.2, pd_19⟩, by decide +kernel⟩, (inC7 (i := 122) rfl rfl), (inC7 (i := 123) rfl rfl)⟩
set_option maxRecDepth 20000 in
theorem mo_X12_law : MOv m_X12_law 0 := ⟨⟨rfl, (inC8 (i := 43) rfl rfl), (inC1 (i := 11) rfl rfl), ⟨nh_11.1, nh_11.2, pd_19⟩, by decide +kernel⟩, (inC8 (i := 41) rfl rfl), (inC8 (i := 42) rfl rfl)⟩
set_option maxRecDepth 20000 in
theorem mo_X12_leansWell : MOv m_X12_leansWell 1 := ⟨⟨rfl, (inC8 (i := 75) rfl rfl), (inC1 (i := 11) rfl rfl), ⟨nh_11.1, nh_11.2, pd_18⟩, by decide +kernel⟩, (inC8 (i := 74) rfl rfl), inT2 (i := 77) rfl rfl⟩
set_option maxRecDepth 20000 in
theorem mo_X12_isReady : MOv m_X12_isReady 1 := ⟨⟨rfl, (inC8 (i := 71) rfl rfl), (inC1 (i := 11) rfl rfl), ⟨nh_11.1, nh_11.2, pd_18⟩, by decide +kernel⟩, (inC8 (i := 70) rfl rfl), inT2 (i := 76) rfl rfl⟩
set_option maxRecDepth 20000 in
theorem mo_X12_factOf : MOv m_X12_factOf 3 := ⟨⟨rfl, (inC8 (i := 191) rfl rfl), (inC1 (i := 11) rfl rfl), ⟨nh_11.1, nh_11.2, pd_8⟩, by decide +kernel⟩, (inC8 (i := 190) rfl rfl), inT2 (i := 96) rfl rfl⟩
set_option maxRecDepth 20000 in
theorem mo_X12_holdsLine : MOv m_X12_holdsLine 2 := ⟨⟨rfl, (inC8 (i := 187) rfl rfl), (inC1 (i := 11) rfl rfl), ⟨nh_11.1, nh_11.2, pd_23⟩, by decide +kernel⟩, (inC8 (i := 186) rfl rfl), inT2 (i := 95) rfl rfl⟩
set_option maxRecDepth 20000 in
theorem mo_X12_sumOf : MOv m_X12_sumOf 2 := ⟨⟨rfl, (inC8 (i := 183) rfl rfl), (inC1 (i := 11) rfl rfl), ⟨nh_11.1, nh_11.2, pd_5⟩, by decide +kernel⟩, (inC8 (i := 182) rfl rfl), inT2 (i := 94) rfl rfl⟩
set_option maxRecDepth 20000 in
theorem mo_X12_growsBy : MOv m_X12_growsBy 1 := ⟨⟨rfl, (inC8 (i := 200) rfl rfl), (inC1 (i := 11) rfl rfl), ⟨nh_11.1, nh_11.2, pd_12⟩, by decide +kernel⟩, (inC8 (i := 199) rfl rfl), inT2 (i := 97) rfl rfl⟩
set_option maxRecDepth 20000 in
theorem mo_X12_shamesBy : MOv m_X12_shamesBy 1 := ⟨⟨rfl, (inC8 (i := 179) rfl rfl), (inC1 (i := 11) rfl rfl), ⟨nh_11.1, nh_11.2, pd_12⟩, by decide +kernel⟩, (inC8 (i := 178) rfl rfl), inT2 (i := 93) rfl rfl⟩
set_option maxRecDepth 20000 in
theorem mo_X12_ofState : MOv m_X12_ofState 1 := ⟨⟨rfl, (inC8 (i := 152) rfl rfl), (inC1 (i := 11) rfl rfl), ⟨nh_11.1, nh_11.2, pd_12⟩, by decide +kernel⟩, (inC8 (i := 151) rfl rfl), inT2 (i := 87) rfl rfl⟩
set_option maxRecDepth 20000 in
theorem mo_X12_goesAhead : MOv m_X12_goesAhead 2 := ⟨⟨rfl, (inC8 (i := 55) rfl rfl), (inC1 (i := 11) rfl rfl), ⟨nh_11.1, nh_11.2, pd_23⟩, by decide +kernel⟩, (inC8 (i := 54) rfl rfl), inT2 (i := 73) rfl rfl⟩
set_option maxRecDepth 20000 in
theorem mo_X12_placeOf : MOv m_X12_placeOf 1 := ⟨⟨rfl, (inC8 (i := 51) rfl rfl), (inC1 (i := 11) rfl rfl), ⟨nh_11.1, nh_11.2, pd_12⟩, by decide +kernel⟩, (inC8 (i := 50) rfl rfl), inT2 (i := 72) rfl rfl⟩
set_option maxRecDepth 20000 in
theorem mo_X12_passesBy : MOv m_X12_passesBy 1 := ⟨⟨rfl, (inC8 (i := 83) rfl rfl), (inC1 (i := 11) rfl rfl), ⟨nh_11.1, nh_11.2, pd_12⟩, by decide +kernel⟩, (inC8 (i := 82) rfl rfl), inT2 (i := 79) rfl rfl⟩
set_option maxRecDepth 20000 in
theorem mo_X12_canBeCalled : MOv m_X12_canBeCalled 1 := ⟨⟨rfl, (inC8 (i := 67) rfl rfl), (inC1 (i := 11) rfl rfl), ⟨nh_11.1, nh_11.2, pd_18⟩, by decide +kernel⟩, (inC8 (i := 66) rfl rfl), inT2 (i := 75) rfl rfl⟩
set_option maxRecDepth 20000 in
theorem mo_X12_canOnes : MOv m_X12_canOnes 0 := ⟨⟨rfl, (inC8 (i := 63) rfl rfl), (inC1 (i := 11) rfl rfl), ⟨nh_11.1, nh_11.2, pd_19⟩, by decide +kernel⟩, (inC8 (i := 62) rfl rfl), inT2 (i := 74) rfl rfl⟩
set_option maxRecDepth 20000 in
theorem mo_X12_parade : MOv m_X12_parade 1 := ⟨⟨rfl, (inC8 (i := 47) rfl rfl), (inC1 (i := 11) rfl rfl), ⟨nh_11.1, nh_11.2, pd_12⟩, by decide +kernel⟩, (inC8 (i := 45) rfl rfl), (inC8 (i := 46) rfl rfl)⟩
set_option maxRecDepth 20000 in
theorem mo_X12_can : MOv m_X12_can 0 := ⟨⟨rfl, (inC8 (i := 59) rfl rfl), (inC1 (i := 11) rfl rfl), ⟨nh_11.1, nh_11.2, pd_19⟩, by decide +kernel⟩, (inC8 (i := 57) rfl rfl), (inC8 (i := 58) rfl rfl)⟩
set_option maxRecDepth 20000 in
theorem mo_X12_greets : MOv m_X12_greets 2 := ⟨⟨rfl, (inC8 (i := 87) rfl rfl), (inC1 (i := 11) rfl rfl), ⟨nh_11.1, nh_11.2, pd_5⟩, by decide +kernel⟩, (inC8 (i := 85) rfl rfl), (inC8 (i := 86) rfl rfl)⟩
set_option maxRecDepth 20000 in
theorem mo_X12_whereAt : MOv m_X12_whereAt 2 := ⟨⟨rfl, (inC8 (i := 108) rfl rfl), (inC1 (i := 11) rfl rfl), ⟨nh_11.1, nh_11.2, pd_5⟩, by decide +kernel⟩, (inC8 (i := 107) rfl rfl), inT2 (i := 81) rfl rfl⟩
set_option maxRecDepth 20000 in
theorem mo_X12_noHour : MOs m_X12_noHour 1 := ⟨⟨rfl, (inC8 (i := 104) rfl rfl), (inC1 (i := 11) rfl rfl), ⟨nh_11.1, nh_11.2, pd_18⟩, by decide +kernel⟩, (inC8 (i := 103) rfl rfl)⟩
set_option maxRecDepth 20000 in
theorem mo_X12_where : MOv m_X12_where 2 := ⟨⟨rfl, (inC8 (i := 101) rfl rfl), (inC1 (i := 11) rfl rfl), ⟨nh_11.1, nh_11.2, pd_5⟩, by decide +kernel⟩, (inC8 (i := 99) rfl rfl), (inC8 (i := 100) rfl rfl)⟩
set_option maxRecDepth 20000 in
theorem mo_X12_crowd : MOv m_X12_crowd 3 := ⟨⟨rfl, (inC8 (i := 113) rfl rfl), (inC1 (i := 11) rfl rfl), ⟨nh_11.1, nh_11.2, pd_8⟩, by decide +kernel⟩, (inC8 (i := 111) rfl rfl), (inC8 (i := 112) rfl rfl)⟩
set_option maxRecDepth 20000 in
theorem mo_X12_canAll : MOv m_X12_canAll 1 := ⟨⟨rfl, (inC8 (i := 122) rfl rfl), (inC1 (i := 11) rfl rfl), ⟨nh_11.1, nh_11.2, pd_18⟩, by decide +kernel⟩, (inC8 (i := 121) rfl rfl), inT2 (i := 82) rfl rfl⟩
set_option maxRecDepth 20000 in
theorem mo_X12_most : MOv m_X12_most 0 := ⟨⟨rfl, (inC8 (i := 117) rfl rfl), (inC1 (i := 11) rfl rfl), ⟨nh_11.1, nh_11.2, pd_19⟩, by decide +kernel⟩, (inC8 (i := 115) rfl rfl), (inC8 (i := 116) rfl rfl)⟩
set_option maxRecDepth 20000 in
theorem mo_X12_ownedBy : MOv m_X12_ownedBy 1 := ⟨⟨rfl, (inC8 (i := 140) rfl rfl), (inC1 (i := 11) rfl rfl), ⟨nh_11.1, nh_11.2, pd_12⟩, by decide +kernel⟩, (inC8 (i := 139) rfl rfl), inT2 (i := 84) rfl rfl⟩
set_option maxRecDepth 20000 in
theorem mo_X12_hoursOf : MOv m_X12_hoursOf 1 := ⟨⟨rfl, (inC8 (i := 156) rfl rfl), (inC1 (i := 11) rfl rfl), ⟨nh_11.1, nh_11.2, pd_12⟩, by decide +kernel⟩, (inC8 (i := 155) rfl rfl), inT2 (i := 88) rfl rfl⟩
set_option maxRecDepth 20000 in
theorem mo_X12_shameOf : MOv m_X12_shameOf 1 := ⟨⟨rfl, (inC8 (i := 175) rfl rfl), (inC1 (i := 11) rfl rfl), ⟨nh_11.1, nh_11.2, pd_12⟩, by decide +kernel⟩, (inC8 (i := 174) rfl rfl), inT2 (i := 92) rfl rfl⟩
set_option maxRecDepth 20000 in
theorem mo_X12_waitingOf : MOv m_X12_waitingOf 1 := ⟨⟨rfl, (inC8 (i := 148) rfl rfl), (inC1 (i := 11) rfl rfl), ⟨nh_11.1, nh_11.2, pd_12⟩, by decide +kernel⟩, (inC8 (i := 147) rfl rfl), inT2 (i := 86) rfl rfl⟩
set_option maxRecDepth 20000 in
theorem mo_X12_loadOf : MOv m_X12_loadOf 1 := ⟨⟨rfl, (inC8 (i := 144) rfl rfl), (inC1 (i := 11) rfl rfl), ⟨nh_11.1, nh_11.2, pd_12⟩, by decide +kernel⟩, (inC8 (i := 143) rfl rfl), inT2 (i := 85) rfl rfl⟩
set_option maxRecDepth 20000 in
theorem mo_X12_daysFor : MOs m_X12_daysFor 2 := ⟨⟨rfl, (inC8 (i := 167) rfl rfl), (inC1 (i := 11) rfl rfl), ⟨nh_11.1, nh_11.2, pd_5⟩, by decide +kernel⟩, (inC8 (i := 166) rfl rfl)⟩
set_option maxRecDepth 20000 in
theorem mo_X12_needsOf : MOv m_X12_needsOf 1 := ⟨⟨rfl, (inC8 (i := 160) rfl rfl), (inC1 (i := 11) rfl rfl), ⟨nh_11.1, nh_11.2, pd_12⟩, by decide +kernel⟩, (inC8 (i := 159) rfl rfl), inT2 (i := 89) rfl rfl⟩
set_option maxRecDepth 20000 in
theorem mo_X12_shareOf : MOv m_X12_shareOf 1 := ⟨⟨rfl, (inC8 (i := 171) rfl rfl), (inC1 (i := 11) rfl rfl), ⟨nh_11.1, nh_11.2, pd_12⟩, by decide +kernel⟩, (inC8 (i := 170) rfl rfl), inT2 (i := 91) rfl rfl⟩
set_option maxRecDepth 20000 in
theorem mo_X12_person : MOv m_X12_person 2 := ⟨⟨rfl, (inC8 (i := 132) rfl rfl), (inC1 (i := 11) rfl rfl), ⟨nh_11.1, nh_11.2, pd_5⟩, by decide +kernel⟩, (inC8 (i := 130) rfl rfl), (inC8 (i := 131) rfl rfl)⟩
set_option maxRecDepth 20000 in
theorem mo_X12_duty : MOv m_X12_duty 2 := ⟨⟨rfl, (inC8 (i := 196) rfl rfl), (inC1 (i := 11) rfl rfl), ⟨nh_11.1, nh_11.2, pd_5⟩, by decide +kernel⟩, (inC8 (i := 194) rfl rfl), (inC8 (i := 195) rfl rfl)⟩
set_option maxRecDepth 20000 in
theorem mo_X12_isNow : MOv m_X12_isNow 2 := ⟨⟨rfl, (inC8 (i := 216) rfl rfl), (inC1 (i := 11) rfl rfl), ⟨nh_11.1, nh_11.2, pd_14⟩, by decide +kernel⟩, (inC8 (i := 215) rfl rfl), inT2 (i := 100) rfl rfl⟩
set_option maxRecDepth 20000 in
theorem mo_X12_finishes : MOv m_X12_finishes 1 := ⟨⟨rfl, (inC8 (i := 212) rfl rfl), (inC1 (i := 11) rfl rfl), ⟨nh_11.1, nh_11.2, pd_15⟩, by decide +kernel⟩, (inC8 (i := 211) rfl rfl), inT2 (i := 99) rfl rfl⟩
set_option maxRecDepth 20000 in
theorem mo_X12_call : MOv m_X12_call 1 := ⟨⟨rfl, (inC8 (i := 204) rfl rfl), (inC1 (i := 11) rfl rfl), ⟨nh_11.1, nh_11.2, pd_12⟩, by decide +kernel⟩, (inC8 (i := 202) rfl rfl), (inC8 (i := 203) rfl rfl)⟩
set_option maxRecDepth 20000 in
theorem mo_X12_put : MOv m_X12_put 1 := ⟨⟨rfl, (inC8 (i := 220) rfl rfl), (inC1 (i := 11) rfl rfl), ⟨nh_11.1, nh_11.2, pd_12⟩, by decide +kernel⟩, (inC8 (i := 218) rfl rfl), (inC8 (i := 219) rfl rfl)⟩
set_option maxRecDepth 20000 in
theorem mo_X12_forget : MOv m_X12_forget 1 := ⟨⟨rfl, (inC8 (i := 224) rfl rfl), (inC1 (i := 11) rfl rfl), ⟨nh_11.1, nh_11.2, pd_12⟩, by decide +kernel⟩, (inC8 (i := 222) rfl rfl), (inC8 (i := 223) rfl rfl)⟩
set_option maxRecDepth 20000 in
theorem mo_X12_recall : MOv m_X12_recall 1 := ⟨⟨rfl, (inC8 (i := 228) rfl rfl), (inC1 (i := 11) rfl rfl), ⟨nh_11.1, nh_11.2, pd_12⟩, by decide +kernel⟩, (inC8 (i := 226) rfl rfl), (inC8 (i := 227) rfl rfl)⟩
set_option maxRecDepth 20000 in
theorem mo_X12_hand : MOv m_X12_hand 2 := ⟨⟨rfl, (inC8 (i := 236) rfl rfl), (inC1 (i := 11) rfl rfl), ⟨nh_11.1, nh_11.2, pd_5⟩, by decide +kernel⟩, (inC8 (i := 234) rfl rfl), (inC8 (i := 235) rfl rfl)⟩
set_option maxRecDepth 20000 in
theorem mo_X12_lean : MOv m_X12_lean 2 := ⟨⟨rfl, (inC9 (i := 0) rfl rfl), (inC1 (i := 11) rfl rfl), ⟨nh_11.1, nh_11.2, pd_5⟩, by decide +kernel⟩, (inC8 (i := 238) rfl rfl), (inC8 (i := 239) rfl rfl)⟩
set_option maxRecDepth 20000 in
theorem mo_X12_free : MOv m_X12_free 2 := ⟨⟨rfl, (inC9 (i := 4) rfl rfl), (inC1 (i := 11) rfl rfl), ⟨nh_11.1, nh_11.2, pd_5⟩, by decide +kernel⟩, (inC9 (i := 2) rfl rfl), (inC9 (i := 3) rfl rfl)⟩
set_option maxRecDepth 20000 in
theorem mo_X12_hasTool : MOv m_X12_hasTool 2 := ⟨⟨rfl, (inC9 (i := 29) rfl rfl), (inC1 (i := 11) rfl rfl), ⟨nh_11.1, nh_11.2, pd_23⟩, by decide +kernel⟩, (inC9 (i := 28) rfl rfl), inT2 (i := 106) rfl rfl⟩
set_option maxRecDepth 20000 in
theorem mo_X12_works : MOv m_X12_works 1 := ⟨⟨rfl, (inC9 (i := 25) rfl rfl), (inC1 (i := 11) rfl rfl), ⟨nh_11.1, nh_11.2, pd_12⟩, by decide +kernel⟩, (inC9 (i := 24) rfl rfl), inT2 (i := 105) rfl rfl⟩
set_option maxRecDepth 20000 in
theorem mo_X12_growsOlder : MOv m_X12_growsOlder 1 := ⟨⟨rfl, (inC9 (i := 33) rfl rfl), (inC1 (i := 11) rfl rfl), ⟨nh_11.1, nh_11.2, pd_15⟩, by decide +kernel⟩, (inC9 (i := 32) rfl rfl), inT2 (i := 107) rfl rfl⟩
set_option maxRecDepth 20000 in
theorem mo_X12_tells : MOv m_X12_tells 2 := ⟨⟨rfl, (inC9 (i := 41) rfl rfl), (inC1 (i := 11) rfl rfl), ⟨nh_11.1, nh_11.2, pd_14⟩, by decide +kernel⟩, (inC9 (i := 40) rfl rfl), inT2 (i := 109) rfl rfl⟩
set_option maxRecDepth 20000 in
theorem mo_X12_goesBy : MOv m_X12_goesBy 0 := ⟨⟨rfl, (inC9 (i := 37) rfl rfl), (inC1 (i := 11) rfl rfl), ⟨nh_11.1, nh_11.2, pd_0⟩, by decide +kernel⟩, (inC9 (i := 36) rfl rfl), inT2 (i := 108) rfl rfl⟩
set_option maxRecDepth 20000 in
theorem mo_X12_oneDay : MOv m_X12_oneDay 1 := ⟨⟨rfl, (inC9 (i := 16) rfl rfl), (inC1 (i := 11) rfl rfl), ⟨nh_11.1, nh_11.2, pd_44⟩, by decide +kernel⟩, (inC9 (i := 15) rfl rfl), inT2 (i := 103) rfl rfl⟩
set_option maxRecDepth 20000 in
theorem mo_X12_goesOn : MOv m_X12_goesOn 2 := ⟨⟨rfl, (inC9 (i := 12) rfl rfl), (inC1 (i := 11) rfl rfl), ⟨nh_11.1, nh_11.2, pd_34⟩, by decide +kernel⟩, (inC9 (i := 11) rfl rfl), inT2 (i := 102) rfl rfl⟩
set_option maxRecDepth 20000 in
theorem mo_X12_keepsAll : MOv m_X12_keepsAll 0 := ⟨⟨rfl, (inC9 (i := 52) rfl rfl), (inC1 (i := 11) rfl rfl), ⟨nh_11.1, nh_11.2, pd_0⟩, by decide +kernel⟩, (inC9 (i := 51) rfl rfl), inT2 (i := 110) rfl rfl⟩
set_option maxRecDepth 20000 in
theorem mo_X12_bringsBack : MOv m_X12_bringsBack 0 := ⟨⟨rfl, (inC9 (i := 56) rfl rfl), (inC1 (i := 11) rfl rfl), ⟨nh_11.1, nh_11.2, pd_0⟩, by decide +kernel⟩, (inC9 (i := 55) rfl rfl), inT2 (i := 111) rfl rfl⟩
set_option maxRecDepth 20000 in
theorem mo_X12_days : MOv m_X12_days 1 := ⟨⟨rfl, (inC9 (i := 8) rfl rfl), (inC1 (i := 11) rfl rfl), ⟨nh_11.1, nh_11.2, pd_12⟩, by decide +kernel⟩, (inC9 (i := 6) rfl rfl), (inC9 (i := 7) rfl rfl)⟩
set_option maxRecDepth 20000 in
theorem mo_X12_noDays : MOs m_X12_noDays 1 := ⟨⟨rfl, (inC9 (i := 48) rfl rfl), (inC1 (i := 11) rfl rfl), ⟨nh_11.1, nh_11.2, pd_18⟩, by decide +kernel⟩, (inC9 (i := 47) rfl rfl)⟩
set_option maxRecDepth 20000 in
theorem mo_X12_ahead : MOv m_X12_ahead 3 := ⟨⟨rfl, (inC9 (i := 45) rfl rfl), (inC1 (i := 11) rfl rfl), ⟨nh_11.1, nh_11.2, pd_8⟩, by decide +kernel⟩, (inC9 (i := 43) rfl rfl), (inC9 (i := 44) rfl rfl)⟩
set_option maxRecDepth 20000 in
theorem mo_X12_overIn : MOv m_X12_overIn 2 := ⟨⟨rfl, (inC9 (i := 64) rfl rfl), (inC1 (i := 11) rfl rfl), ⟨nh_11.1, nh_11.2, pd_34⟩, by decide +kernel⟩, (inC9 (i := 63) rfl rfl), inT2 (i := 112) rfl rfl⟩
set_option maxRecDepth 20000 in
theorem mo_X12_allDuties : MOv m_X12_allDuties 0 := ⟨⟨rfl, (inC9 (i := 80) rfl rfl), (inC1 (i := 11) rfl rfl), ⟨nh_11.1, nh_11.2, pd_19⟩, by decide +kernel⟩, (inC9 (i := 79) rfl rfl), inT2 (i := 114) rfl rfl⟩
set_option maxRecDepth 20000 in
theorem mo_X12_allOver : MOv m_X12_allOver 0 := ⟨⟨rfl, (inC9 (i := 76) rfl rfl), (inC1 (i := 11) rfl rfl), ⟨nh_11.1, nh_11.2, pd_19⟩, by decide +kernel⟩, (inC9 (i := 75) rfl rfl), inT2 (i := 113) rfl rfl⟩
set_option maxRecDepth 20000 in
theorem mo_X12_orNone : MOs m_X12_orNone 1 := ⟨⟨rfl, (inC9 (i := 68) rfl rfl), (inC1 (i := 11) rfl rfl), ⟨nh_11.1, nh_11.2, pd_12⟩, by decide +kernel⟩, (inC9 (i := 67) rfl rfl)⟩
set_option maxRecDepth 20000 in
theorem mo_X12_done : MOv m_X12_done 1 := ⟨⟨rfl, (inC9 (i := 60) rfl rfl), (inC1 (i := 11) rfl rfl), ⟨nh_11.1, nh_11.2, pd_12⟩, by decide +kernel⟩, (inC9 (i := 58) rfl rfl), (inC9 (i := 59) rfl rfl)⟩
set_option maxRecDepth 20000 in
theorem mo_X12_all : MOv m_X12_all 0 := ⟨⟨rfl, (inC9 (i := 72) rfl rfl), (inC1 (i := 11) rfl rfl), ⟨nh_11.1, nh_11.2, pd_19⟩, by decide +kernel⟩, (inC9 (i := 70) rfl rfl), (inC9 (i := 71) rfl rfl)⟩
set_option maxRecDepth 20000 in
theorem mo_X12_overWith : MOv m_X12_overWith 2 := ⟨⟨rfl, (inC9 (i := 88) rfl rfl), (inC1 (i := 11) rfl rfl), ⟨nh_11.1, nh_11.2, pd_5⟩, by decide +kernel⟩, (inC9 (i := 87) rfl rfl), inT2 (i := 115) rfl rfl⟩
set_option maxRecDepth 20000 in
theorem mo_X12_help : MOv m_X12_help 0 := ⟨⟨rfl, (inC9 (i := 84) rfl rfl), (inC1 (i := 11) rfl rfl), ⟨nh_11.1, nh_11.2, pd_19⟩, by decide +kernel⟩, (inC9 (i := 82) rfl rfl), (inC9 (i := 83) rfl rfl)⟩
set_option maxRecDepth 20000 in
theorem mo_X12_crux : MOv m_X12_crux 0 := ⟨⟨rfl, (inC9 (i := 92) rfl rfl), (inC1 (i := 11) rfl rfl), ⟨nh_11.1, nh_11.2, pd_19⟩, by decide +kernel⟩, (inC9 (i := 90) rfl rfl), (inC9 (i := 91) rfl rfl)⟩
set_option maxRecDepth 20000 in
theorem mo_X12_sick : MOv m_X12_sick 1 := ⟨⟨rfl, (inC9 (i := 96) rfl rfl), (inC1 (i := 11) rfl rfl), ⟨nh_11.1, nh_11.2, pd_12⟩, by decide +kernel⟩, (inC9 (i := 94) rfl rfl), (inC9 (i := 95) rfl rfl)⟩
set_option maxRecDepth 20000 in
theorem mo_X12_beforeOf : MOv m_X12_beforeOf 1 := ⟨⟨rfl, (inC9 (i := 108) rfl rfl), (inC1 (i := 11) rfl rfl), ⟨nh_11.1, nh_11.2, pd_12⟩, by decide +kernel⟩, (inC9 (i := 107) rfl rfl), inT2 (i := 117) rfl rfl⟩
set_option maxRecDepth 20000 in
theorem mo_X12_ringOnes : MOv m_X12_ringOnes 0 := ⟨⟨rfl, (inC9 (i := 104) rfl rfl), (inC1 (i := 11) rfl rfl), ⟨nh_11.1, nh_11.2, pd_19⟩, by decide +kernel⟩, (inC9 (i := 103) rfl rfl), inT2 (i := 116) rfl rfl⟩
set_option maxRecDepth 20000 in
theorem mo_X12_ring : MOv m_X12_ring 0 := ⟨⟨rfl, (inC9 (i := 100) rfl rfl), (inC1 (i := 11) rfl rfl), ⟨nh_11.1, nh_11.2, pd_19⟩, by decide +kernel⟩, (inC9 (i := 98) rfl rfl), (inC9 (i := 99) rfl rfl)⟩
set_option maxRecDepth 20000 in
theorem mo_X12_before : MOv m_X12_before 1 := ⟨⟨rfl, (inC9 (i := 112) rfl rfl), (inC1 (i := 11) rfl rfl), ⟨nh_11.1, nh_11.2, pd_12⟩, by decide +kernel⟩, (inC9 (i := 110) rfl rfl), (inC9 (i := 111) rfl rfl)⟩
set_option maxRecDepth 20000 in
theorem mo_X12_after : MOv m_X12_after 1 := ⟨⟨rfl, (inC9 (i := 116) rfl rfl), (inC1 (i := 11) rfl rfl), ⟨nh_11.1, nh_11.2, pd_12⟩, by decide +kernel⟩, (inC9 (i := 114) rfl rfl), (inC9 (i := 115) rfl rfl)⟩
set_option maxRecDepth 20000 in
theorem mo_X12_depth : MOv m_X12_depth 1 := ⟨⟨rfl, (inC9 (i := 120) rfl rfl), (inC1 (i := 11) rfl rfl), ⟨nh_11.1, nh_11.2, pd_12⟩, by decide +kernel⟩, (inC9 (i := 118) rfl rfl), (inC9 (i := 119) rfl rfl)⟩
set_option maxRecDepth 20000 in
theorem mo_X12_chainOf : MOv m_X12_chainOf 1 := ⟨⟨rfl, (inC9 (i := 132) rfl rfl), (inC1 (i := 11) rfl rfl), ⟨nh_11.1, nh_11.2, pd_12⟩, by decide +kernel⟩, (inC9 (i := 131) rfl rfl), inT2 (i := 119) rfl rfl⟩
set_option maxRecDepth 20000 in
theorem mo_X12_soonOf : MOv m_X12_soonOf 1 := ⟨⟨rfl, (inC9 (i := 128) rfl rfl), (inC1 (i := 11) rfl rfl), ⟨nh_11.1, nh_11.2, pd_12⟩, by decide +kernel⟩, (inC9 (i := 127) rfl rfl), inT2 (i := 118) rfl rfl⟩
set_option maxRecDepth 20000 in
theorem mo_X12_soon : MOv m_X12_soon 1 := ⟨⟨rfl, (inC9 (i := 124) rfl rfl), (inC1 (i := 11) rfl rfl), ⟨nh_11.1, nh_11.2, pd_12⟩, by decide +kernel⟩, (inC9 (i := 122) rfl rfl), (inC9 (i := 123) rfl rfl)⟩
set_option maxRecDepth 20000 in
theorem mo_X12_longest : MOv m_X12_longest 0 := ⟨⟨rfl, (inC9 (i := 136) rfl rfl), (inC1 (i := 11) rfl rfl), ⟨nh_11.1, nh_11.2, pd_19⟩, by decide +kernel⟩, (inC9 (i := 134) rfl rfl), (inC9 (i := 135) rfl rfl)⟩
set_option maxRecDepth 20000 in
theorem mo_X12_olderOnes : MOv m_X12_olderOnes 1 := ⟨⟨rfl, (inC9 (i := 144) rfl rfl), (inC1 (i := 11) rfl rfl), ⟨nh_11.1, nh_11.2, pd_12⟩, by decide +kernel⟩, (inC9 (i := 143) rfl rfl), inT2 (i := 120) rfl rfl⟩
set_option maxRecDepth 20000 in
theorem mo_X12_young : MOv m_X12_young 1 := ⟨⟨rfl, (inC9 (i := 140) rfl rfl), (inC1 (i := 11) rfl rfl), ⟨nh_11.1, nh_11.2, pd_12⟩, by decide +kernel⟩, (inC9 (i := 138) rfl rfl), (inC9 (i := 139) rfl rfl)⟩
set_option maxRecDepth 20000 in
theorem mo_X12_older : MOv m_X12_older 1 := ⟨⟨rfl, (inC9 (i := 148) rfl rfl), (inC1 (i := 11) rfl rfl), ⟨nh_11.1, nh_11.2, pd_12⟩, by decide +kernel⟩, (inC9 (i := 146) rfl rfl), (inC9 (i := 147) rfl rfl)⟩
set_option maxRecDepth 20000 in
theorem mo_X12_leanWithin : MOv m_X12_leanWithin 1 := ⟨⟨rfl, (inC9 (i := 160) rfl rfl), (inC1 (i := 11) rfl rfl), ⟨nh_11.1, nh_11.2, pd_18⟩, by decide +kernel⟩, (inC9 (i := 159) rfl rfl), inT2 (i := 122) rfl rfl⟩
set_option maxRecDepth 20000 in
theorem mo_X12_toDo : MOv m_X12_toDo 1 := ⟨⟨rfl, (inC9 (i := 156) rfl rfl), (inC1 (i := 11) rfl rfl), ⟨nh_11.1, nh_11.2, pd_12⟩, by decide +kernel⟩, (inC9 (i := 155) rfl rfl), inT2 (i := 121) rfl rfl⟩
set_option maxRecDepth 20000 in
theorem mo_X12_does : MOv m_X12_does 2 := ⟨⟨rfl, (inC9 (i := 152) rfl rfl), (inC1 (i := 11) rfl rfl), ⟨nh_11.1, nh_11.2, pd_34⟩, by decide +kernel⟩, (inC9 (i := 150) rfl rfl), (inC9 (i := 151) rfl rfl)⟩
set_option maxRecDepth 20000 in
theorem mo_X12_isTold : MOv m_X12_isTold 0 := ⟨⟨rfl, (inC9 (i := 168) rfl rfl), (inC1 (i := 11) rfl rfl), ⟨nh_11.1, nh_11.2, pd_20⟩, by decide +kernel⟩, (inC9 (i := 167) rfl rfl), inT2 (i := 123) rfl rfl⟩
set_option maxRecDepth 20000 in
theorem mo_X12_allThatFit : MOv m_X12_allThatFit 0 := ⟨⟨rfl, (inC9 (i := 172) rfl rfl), (inC1 (i := 11) rfl rfl), ⟨nh_11.1, nh_11.2, pd_19⟩, by decide +kernel⟩, (inC9 (i := 171) rfl rfl), inT2 (i := 124) rfl rfl⟩
set_option maxRecDepth 20000 in
theorem mo_X12_whose : MOv m_X12_whose 0 := ⟨⟨rfl, (inC9 (i := 164) rfl rfl), (inC1 (i := 11) rfl rfl), ⟨nh_11.1, nh_11.2, pd_19⟩, by decide +kernel⟩, (inC9 (i := 162) rfl rfl), (inC9 (i := 163) rfl rfl)⟩
set_option maxRecDepth 20000 in
theorem mo_X12_ask : MOv m_X12_ask 0 := ⟨⟨rfl, (inC9 (i := 176) rfl rfl), (inC1 (i := 11) rfl rfl), ⟨nh_11.1, nh_11.2, pd_19⟩, by decide +kernel⟩, (inC9 (i := 174) rfl rfl), (inC9 (i := 175) rfl rfl)⟩
set_option maxRecDepth 20000 in
theorem mo_X12_isGap : MOv m_X12_isGap 1 := ⟨⟨rfl, (inC9 (i := 184) rfl rfl), (inC1 (i := 11) rfl rfl), ⟨nh_11.1, nh_11.2, pd_18⟩, by decide +kernel⟩, (inC9 (i := 183) rfl rfl), inT2 (i := 125) rfl rfl⟩
set_option maxRecDepth 20000 in
theorem mo_X12_gap : MOv m_X12_gap 0 := ⟨⟨rfl, (inC9 (i := 180) rfl rfl), (inC1 (i := 11) rfl rfl), ⟨nh_11.1, nh_11.2, pd_19⟩, by decide +kernel⟩, (inC9 (i := 178) rfl rfl), (inC9 (i := 179) rfl rfl)⟩
set_option maxRecDepth 20000 in
theorem mo_X12_lost : MOv m_X12_lost 0 := ⟨⟨rfl, (inC9 (i := 188) rfl rfl), (inC1 (i := 11) rfl rfl), ⟨nh_11.1, nh_11.2, pd_19⟩, by decide +kernel⟩, (inC9 (i := 186) rfl rfl), (inC9 (i := 187) rfl rfl)⟩
set_option maxRecDepth 20000 in
theorem mo_X12_missed : MOv m_X12_missed 0 := ⟨⟨rfl, (inC9 (i := 192) rfl rfl), (inC1 (i := 11) rfl rfl), ⟨nh_11.1, nh_11.2, pd_19⟩, by decide +kernel⟩, (inC9 (i := 190) rfl rfl), (inC9 (i := 191) rfl rfl)⟩
set_option maxRecDepth 20000 in
theorem mo_X12_serves : MOv m_X12_serves 4 := ⟨⟨rfl, (inC9 (i := 200) rfl rfl), (inC1 (i := 11) rfl rfl), ⟨nh_11.1, nh_11.2, pd_6⟩, by decide +kernel⟩, (inC9 (i := 199) rfl rfl), inT2 (i := 126) rfl rfl⟩
set_option maxRecDepth 20000 in
theorem mo_X12_swap : MOv m_X12_swap 2 := ⟨⟨rfl, (inC9 (i := 196) rfl rfl), (inC1 (i := 11) rfl rfl), ⟨nh_11.1, nh_11.2, pd_5⟩, by decide +kernel⟩, (inC9 (i := 194) rfl rfl), (inC9 (i := 195) rfl rfl)⟩
set_option maxRecDepth 20000 in
theorem mo_X12_hasBy : MOv m_X12_hasBy 3 := ⟨⟨rfl, (inC9 (i := 208) rfl rfl), (inC1 (i := 11) rfl rfl), ⟨nh_11.1, nh_11.2, pd_8⟩, by decide +kernel⟩, (inC9 (i := 207) rfl rfl), inT2 (i := 127) rfl rfl⟩
set_option maxRecDepth 20000 in
theorem mo_X12_rests : MOv m_X12_rests 3 := ⟨⟨rfl, (inC9 (i := 204) rfl rfl), (inC1 (i := 11) rfl rfl), ⟨nh_11.1, nh_11.2, pd_8⟩, by decide +kernel⟩, (inC9 (i := 202) rfl rfl), (inC9 (i := 203) rfl rfl)⟩
set_option maxRecDepth 20000 in
theorem mo_X12_sponsor : MOv m_X12_sponsor 0 := ⟨⟨rfl, (inC9 (i := 212) rfl rfl), (inC1 (i := 11) rfl rfl), ⟨nh_11.1, nh_11.2, pd_19⟩, by decide +kernel⟩, (inC9 (i := 210) rfl rfl), (inC9 (i := 211) rfl rfl)⟩
set_option maxRecDepth 20000 in
theorem mo_X12_idle : MOv m_X12_idle 0 := ⟨⟨rfl, (inC9 (i := 216) rfl rfl), (inC1 (i := 11) rfl rfl), ⟨nh_11.1, nh_11.2, pd_19⟩, by decide +kernel⟩, (inC9 (i := 214) rfl rfl), (inC9 (i := 215) rfl rfl)⟩
set_option maxRecDepth 20000 in
theorem mo_X12_worst : MOv m_X12_worst 0 := ⟨⟨rfl, (inC9 (i := 220) rfl rfl), (inC1 (i := 11) rfl rfl), ⟨nh_11.1, nh_11.2, pd_19⟩, by decide +kernel⟩, (inC9 (i := 218) rfl rfl), (inC9 (i := 219) rfl rfl)⟩
set_option maxRecDepth 20000 in
theorem mo_X12_alike : MOv m_X12_alike 0 := ⟨⟨rfl, (inC9 (i := 224) rfl rfl), (inC1 (i := 11) rfl rfl), ⟨nh_11.1, nh_11.2, pd_19⟩, by decide +kernel⟩, (inC9 (i := 222) rfl rfl), (inC9 (i := 223) rfl rfl)⟩
set_option maxRecDepth 20000 in
theorem mo_X12_oddsOf : MOv m_X12_oddsOf 3 := ⟨⟨rfl, (inC9 (i := 232) rfl rfl), (inC1 (i := 11) rfl rfl), ⟨nh_11.1, nh_11.2, pd_8⟩, by decide +kernel⟩, (inC9 (i := 231) rfl rfl), inT2 (i := 128) rfl rfl⟩
set_option maxRecDepth 20000 in
theorem mo_X12_odds : MOv m_X12_odds 2 := ⟨⟨rfl, (inC9 (i := 228) rfl rfl), (inC1 (i := 11) rfl rfl), ⟨nh_11.1, nh_11.2, pd_5⟩, by decide +kernel⟩, (inC9 (i := 226) rfl rfl), (inC9 (i := 227) rfl rfl)⟩
set_option maxRecDepth 20000 in
theorem mo_X12_spare : MOv m_X12_spare 2 := ⟨⟨rfl, (inC9 (i := 238) rfl rfl), (inC1 (i := 11) rfl rfl), ⟨nh_11.1, nh_11.2, pd_5⟩, by decide +kernel⟩, (inC9 (i := 236) rfl rfl), (inC9 (i := 237) rfl rfl)⟩
set_option maxRecDepth 20000 in
theorem mo_X12_trial : MOv m_X12_trial 2 := ⟨⟨rfl, (inC10 (i := 2) rfl rfl), (inC1 (i := 11) rfl rfl), ⟨nh_11.1, nh_11.2, pd_34⟩, by decide +kernel⟩, (inC10 (i := 0) rfl rfl), (inC10 (i := 1) rfl rfl)⟩
set_option maxRecDepth 20000 in
theorem mo_X12_span : MOv m_X12_span 2 := ⟨⟨rfl, (inC10 (i := 6) rfl rfl), (inC1 (i := 11) rfl rfl), ⟨nh_11.1, nh_11.2, pd_34⟩, by decide +kernel⟩, (inC10 (i := 4) rfl rfl), (inC10 (i := 5) rfl rfl)⟩
set_option maxRecDepth 20000 in
theorem mo_X12_ofLog : MOv m_X12_ofLog 2 := ⟨⟨rfl, (inC10 (i := 14) rfl rfl), (inC1 (i := 11) rfl rfl), ⟨nh_11.1, nh_11.2, pd_5⟩, by decide +kernel⟩, (inC10 (i := 13) rfl rfl), inT2 (i := 129) rfl rfl⟩
set_option maxRecDepth 20000 in
theorem mo_X12_led : MOv m_X12_led 2 := ⟨⟨rfl, (inC10 (i := 10) rfl rfl), (inC1 (i := 11) rfl rfl), ⟨nh_11.1, nh_11.2, pd_34⟩, by decide +kernel⟩, (inC10 (i := 8) rfl rfl), (inC10 (i := 9) rfl rfl)⟩
set_option maxRecDepth 20000 in
theorem mo_X12_log : MOv m_X12_log 2 := ⟨⟨rfl, (inC10 (i := 18) rfl rfl), (inC1 (i := 11) rfl rfl), ⟨nh_11.1, nh_11.2, pd_5⟩, by decide +kernel⟩, (inC10 (i := 16) rfl rfl), (inC10 (i := 17) rfl rfl)⟩
set_option maxRecDepth 20000 in
theorem mo_X12_seed : MOv m_X12_seed 1 := ⟨⟨rfl, (inC10 (i := 22) rfl rfl), (inC1 (i := 11) rfl rfl), ⟨nh_11.1, nh_11.2, pd_12⟩, by decide +kernel⟩, (inC10 (i := 20) rfl rfl), (inC10 (i := 21) rfl rfl)⟩
set_option maxRecDepth 20000 in
theorem mo_X12_readyOnes : MOv m_X12_readyOnes 0 := ⟨⟨rfl, (inC10 (i := 30) rfl rfl), (inC1 (i := 11) rfl rfl), ⟨nh_11.1, nh_11.2, pd_19⟩, by decide +kernel⟩, (inC10 (i := 29) rfl rfl), inT2 (i := 130) rfl rfl⟩
set_option maxRecDepth 20000 in
theorem mo_X12_count : MOv m_X12_count 1 := ⟨⟨rfl, (inC10 (i := 26) rfl rfl), (inC1 (i := 11) rfl rfl), ⟨nh_11.1, nh_11.2, pd_12⟩, by decide +kernel⟩, (inC10 (i := 24) rfl rfl), (inC10 (i := 25) rfl rfl)⟩
set_option maxRecDepth 20000 in
theorem mo_J6_bitCount_0f7a4 : MOs m_J6_bitCount_0f7a4 1 := ⟨⟨rfl, (inC3 (i := 0) rfl rfl), (inC1 (i := 27) rfl rfl), ⟨nh_12.1, nh_12.2, pd_12⟩, by decide +kernel⟩, (inC2 (i := 239) rfl rfl)⟩
set_option maxRecDepth 20000 in
theorem mo_J0_length_8abf5 : MOv m_J0_length_8abf5 0 := ⟨⟨rfl, (inC4 (i := 9) rfl rfl), (inC1 (i := 14) rfl rfl), ⟨nh_13.1, nh_13.2, pd_19⟩, by decide +kernel⟩, (inC4 (i := 7) rfl rfl), (inC4 (i := 8) rfl rfl)⟩
set_option maxRecDepth 20000 in
theorem mo_J0_charAt_5068e : MOv m_J0_charAt_5068e 1 := ⟨⟨rfl, (inC4 (i := 19) rfl rfl), (inC1 (i := 14) rfl rfl), ⟨nh_13.1, nh_13.2, pd_45⟩, by decide +kernel⟩, (inC4 (i := 17) rfl rfl), (inC4 (i := 18) rfl rfl)⟩
set_option maxRecDepth 20000 in
theorem mo_J0_coder_7d493 : MOv m_J0_coder_7d493 0 := ⟨⟨rfl, (inC4 (i := 13) rfl rfl), (inC1 (i := 14) rfl rfl), ⟨nh_13.1, nh_13.2, pd_46⟩, by decide +kernel⟩, (inC4 (i := 11) rfl rfl), (inC4 (i := 12) rfl rfl)⟩
set_option maxRecDepth 20000 in
theorem mo_J0_isLatin1_aae02 : MOv m_J0_isLatin1_aae02 0 := ⟨⟨rfl, (inC4 (i := 23) rfl rfl), (inC1 (i := 14) rfl rfl), ⟨nh_13.1, nh_13.2, pd_20⟩, by decide +kernel⟩, (inC4 (i := 21) rfl rfl), (inC4 (i := 22) rfl rfl)⟩
set_option maxRecDepth 20000 in
theorem mo_J0_checkIndex_df160 : MOs m_J0_checkIndex_df160 2 := ⟨⟨rfl, (inC4 (i := 29) rfl rfl), (inC1 (i := 14) rfl rfl), ⟨nh_13.1, nh_13.2, pd_14⟩, by decide +kernel⟩, (inC4 (i := 28) rfl rfl)⟩
set_option maxRecDepth 20000 in
theorem mo_J1_charAt_3b067 : MOs m_J1_charAt_3b067 2 := ⟨⟨rfl, (inC4 (i := 26) rfl rfl), (inC1 (i := 15) rfl rfl), ⟨nh_14.1, nh_14.2, pd_47⟩, by decide +kernel⟩, (inC4 (i := 25) rfl rfl)⟩
set_option maxRecDepth 20000 in
theorem mo_J2_getChar_3b067 : MOs m_J2_getChar_3b067 2 := ⟨⟨rfl, (inC4 (i := 47) rfl rfl), (inC1 (i := 17) rfl rfl), ⟨nh_15.1, nh_15.2, pd_47⟩, by decide +kernel⟩, (inC4 (i := 46) rfl rfl)⟩
set_option maxRecDepth 20000 in
theorem mo_J2_length_9d52b : MOs m_J2_length_9d52b 1 := ⟨⟨rfl, (inC4 (i := 43) rfl rfl), (inC1 (i := 17) rfl rfl), ⟨nh_15.1, nh_15.2, pd_48⟩, by decide +kernel⟩, (inC4 (i := 42) rfl rfl)⟩
set_option maxRecDepth 20000 in
theorem mo_J2_charAt_3b067 : MOs m_J2_charAt_3b067 2 := ⟨⟨rfl, (inC4 (i := 37) rfl rfl), (inC1 (i := 17) rfl rfl), ⟨nh_15.1, nh_15.2, pd_47⟩, by decide +kernel⟩, (inC4 (i := 36) rfl rfl)⟩
set_option maxRecDepth 20000 in
theorem mo_J2_checkIndex_2214a : MOs m_J2_checkIndex_2214a 2 := ⟨⟨rfl, (inC4 (i := 40) rfl rfl), (inC1 (i := 17) rfl rfl), ⟨nh_15.1, nh_15.2, pd_49⟩, by decide +kernel⟩, (inC4 (i := 39) rfl rfl)⟩
set_option maxRecDepth 20000 in
theorem mo_J3_checkIndex_8e157 : MOs m_J3_checkIndex_8e157 3 := ⟨⟨rfl, (inC4 (i := 34) rfl rfl), (inC1 (i := 16) rfl rfl), ⟨nh_16.1, nh_16.2, pd_50⟩, by decide +kernel⟩, (inC4 (i := 33) rfl rfl)⟩
set_option maxRecDepth 20000 in
theorem mo_L_street : MOw m_L_street 2 := ⟨by decide, (inC3 (i := 202) rfl rfl), (inC1 (i := 0) rfl rfl), ⟨nh_17.1, nh_17.2, pd_51⟩, by decide +kernel, (inC3 (i := 201) rfl rfl)⟩
set_option maxRecDepth 20000 in
theorem mo_L_law : MOw m_L_law 2 := ⟨by decide, (inC5 (i := 72) rfl rfl), (inC1 (i := 0) rfl rfl), ⟨nh_17.1, nh_17.2, pd_51⟩, by decide +kernel, (inC5 (i := 71) rfl rfl)⟩
set_option maxRecDepth 20000 in
theorem mo_L_person : MOw m_L_person 4 := ⟨by decide, (inC5 (i := 86) rfl rfl), (inC1 (i := 0) rfl rfl), ⟨nh_17.1, nh_17.2, pd_52⟩, by decide +kernel, (inC5 (i := 85) rfl rfl)⟩
set_option maxRecDepth 20000 in
theorem mo_L_duty : MOw m_L_duty 4 := ⟨by decide, (inC5 (i := 137) rfl rfl), (inC1 (i := 0) rfl rfl), ⟨nh_17.1, nh_17.2, pd_52⟩, by decide +kernel, (inC5 (i := 136) rfl rfl)⟩
set_option maxRecDepth 20000 in
theorem mo_L_call : MOw m_L_call 3 := ⟨by decide, (inC5 (i := 152) rfl rfl), (inC1 (i := 0) rfl rfl), ⟨nh_17.1, nh_17.2, pd_53⟩, by decide +kernel, (inC5 (i := 151) rfl rfl)⟩
set_option maxRecDepth 20000 in
theorem mo_L_put : MOw m_L_put 3 := ⟨by decide, (inC5 (i := 180) rfl rfl), (inC1 (i := 0) rfl rfl), ⟨nh_17.1, nh_17.2, pd_53⟩, by decide +kernel, (inC5 (i := 179) rfl rfl)⟩
set_option maxRecDepth 20000 in
theorem mo_L_forget : MOw m_L_forget 3 := ⟨by decide, (inC5 (i := 192) rfl rfl), (inC1 (i := 0) rfl rfl), ⟨nh_17.1, nh_17.2, pd_53⟩, by decide +kernel, (inC5 (i := 191) rfl rfl)⟩
set_option maxRecDepth 20000 in
theorem mo_L_recall : MOw m_L_recall 3 := ⟨by decide, (inC5 (i := 199) rfl rfl), (inC1 (i := 0) rfl rfl), ⟨nh_17.1, nh_17.2, pd_53⟩, by decide +kernel, (inC5 (i := 198) rfl rfl)⟩
set_option maxRecDepth 20000 in
theorem mo_L_hand : MOw m_L_hand 4 := ⟨by decide, (inC5 (i := 206) rfl rfl), (inC1 (i := 0) rfl rfl), ⟨nh_17.1, nh_17.2, pd_52⟩, by decide +kernel, (inC5 (i := 205) rfl rfl)⟩
set_option maxRecDepth 20000 in
theorem mo_L_lean : MOw m_L_lean 4 := ⟨by decide, (inC5 (i := 216) rfl rfl), (inC1 (i := 0) rfl rfl), ⟨nh_17.1, nh_17.2, pd_52⟩, by decide +kernel, (inC5 (i := 215) rfl rfl)⟩
set_option maxRecDepth 20000 in
theorem mo_L_free : MOw m_L_free 4 := ⟨by decide, (inC5 (i := 223) rfl rfl), (inC1 (i := 0) rfl rfl), ⟨nh_17.1, nh_17.2, pd_52⟩, by decide +kernel, (inC5 (i := 222) rfl rfl)⟩
set_option maxRecDepth 20000 in
theorem mo_L_days : MOw m_L_days 3 := ⟨by decide, (inC5 (i := 233) rfl rfl), (inC1 (i := 0) rfl rfl), ⟨nh_17.1, nh_17.2, pd_53⟩, by decide +kernel, (inC5 (i := 232) rfl rfl)⟩
set_option maxRecDepth 20000 in
theorem mo_L_greets : MOw m_L_greets 4 := ⟨by decide, (inC6 (i := 12) rfl rfl), (inC1 (i := 0) rfl rfl), ⟨nh_17.1, nh_17.2, pd_52⟩, by decide +kernel, (inC6 (i := 11) rfl rfl)⟩
set_option maxRecDepth 20000 in
theorem mo_L_where : MOw m_L_where 4 := ⟨by decide, (inC6 (i := 22) rfl rfl), (inC1 (i := 0) rfl rfl), ⟨nh_17.1, nh_17.2, pd_52⟩, by decide +kernel, (inC6 (i := 21) rfl rfl)⟩
set_option maxRecDepth 20000 in
theorem mo_L_crowd : MOw m_L_crowd 5 := ⟨by decide, (inC6 (i := 33) rfl rfl), (inC1 (i := 0) rfl rfl), ⟨nh_17.1, nh_17.2, pd_54⟩, by decide +kernel, (inC6 (i := 32) rfl rfl)⟩
set_option maxRecDepth 20000 in
theorem mo_L_does : MOw m_L_does 4 := ⟨by decide, (inC6 (i := 40) rfl rfl), (inC1 (i := 0) rfl rfl), ⟨nh_17.1, nh_17.2, pd_55⟩, by decide +kernel, (inC6 (i := 39) rfl rfl)⟩
set_option maxRecDepth 20000 in
theorem mo_L_soon : MOw m_L_soon 3 := ⟨by decide, (inC6 (i := 58) rfl rfl), (inC1 (i := 0) rfl rfl), ⟨nh_17.1, nh_17.2, pd_53⟩, by decide +kernel, (inC6 (i := 57) rfl rfl)⟩
set_option maxRecDepth 20000 in
theorem mo_L_before : MOw m_L_before 3 := ⟨by decide, (inC6 (i := 65) rfl rfl), (inC1 (i := 0) rfl rfl), ⟨nh_17.1, nh_17.2, pd_53⟩, by decide +kernel, (inC6 (i := 64) rfl rfl)⟩
set_option maxRecDepth 20000 in
theorem mo_L_after : MOw m_L_after 3 := ⟨by decide, (inC6 (i := 73) rfl rfl), (inC1 (i := 0) rfl rfl), ⟨nh_17.1, nh_17.2, pd_53⟩, by decide +kernel, (inC6 (i := 72) rfl rfl)⟩
set_option maxRecDepth 20000 in
theorem mo_L_depth : MOw m_L_depth 3 := ⟨by decide, (inC6 (i := 83) rfl rfl), (inC1 (i := 0) rfl rfl), ⟨nh_17.1, nh_17.2, pd_53⟩, by decide +kernel, (inC6 (i := 82) rfl rfl)⟩
set_option maxRecDepth 20000 in
theorem mo_L_young : MOw m_L_young 3 := ⟨by decide, (inC6 (i := 90) rfl rfl), (inC1 (i := 0) rfl rfl), ⟨nh_17.1, nh_17.2, pd_53⟩, by decide +kernel, (inC6 (i := 89) rfl rfl)⟩
set_option maxRecDepth 20000 in
theorem mo_L_older : MOw m_L_older 3 := ⟨by decide, (inC6 (i := 101) rfl rfl), (inC1 (i := 0) rfl rfl), ⟨nh_17.1, nh_17.2, pd_53⟩, by decide +kernel, (inC6 (i := 100) rfl rfl)⟩
set_option maxRecDepth 20000 in
theorem mo_L_whose : MOw m_L_whose 2 := ⟨by decide, (inC6 (i := 108) rfl rfl), (inC1 (i := 0) rfl rfl), ⟨nh_17.1, nh_17.2, pd_51⟩, by decide +kernel, (inC6 (i := 107) rfl rfl)⟩
set_option maxRecDepth 20000 in
theorem mo_L_ask : MOw m_L_ask 2 := ⟨by decide, (inC6 (i := 128) rfl rfl), (inC1 (i := 0) rfl rfl), ⟨nh_17.1, nh_17.2, pd_51⟩, by decide +kernel, (inC6 (i := 127) rfl rfl)⟩
set_option maxRecDepth 20000 in
theorem mo_L_swap : MOw m_L_swap 4 := ⟨by decide, (inC6 (i := 139) rfl rfl), (inC1 (i := 0) rfl rfl), ⟨nh_17.1, nh_17.2, pd_52⟩, by decide +kernel, (inC6 (i := 138) rfl rfl)⟩
set_option maxRecDepth 20000 in
theorem mo_L_rests : MOw m_L_rests 5 := ⟨by decide, (inC6 (i := 155) rfl rfl), (inC1 (i := 0) rfl rfl), ⟨nh_17.1, nh_17.2, pd_54⟩, by decide +kernel, (inC6 (i := 154) rfl rfl)⟩
set_option maxRecDepth 20000 in
theorem mo_L_odds : MOw m_L_odds 4 := ⟨by decide, (inC6 (i := 171) rfl rfl), (inC1 (i := 0) rfl rfl), ⟨nh_17.1, nh_17.2, pd_52⟩, by decide +kernel, (inC6 (i := 170) rfl rfl)⟩
set_option maxRecDepth 20000 in
theorem mo_L_spare : MOw m_L_spare 4 := ⟨by decide, (inC6 (i := 185) rfl rfl), (inC1 (i := 0) rfl rfl), ⟨nh_17.1, nh_17.2, pd_52⟩, by decide +kernel, (inC6 (i := 184) rfl rfl)⟩
set_option maxRecDepth 20000 in
theorem mo_L_done : MOw m_L_done 3 := ⟨by decide, (inC6 (i := 196) rfl rfl), (inC1 (i := 0) rfl rfl), ⟨nh_17.1, nh_17.2, pd_53⟩, by decide +kernel, (inC6 (i := 195) rfl rfl)⟩
set_option maxRecDepth 20000 in
theorem mo_L_sick : MOw m_L_sick 3 := ⟨by decide, (inC6 (i := 207) rfl rfl), (inC1 (i := 0) rfl rfl), ⟨nh_17.1, nh_17.2, pd_53⟩, by decide +kernel, (inC6 (i := 206) rfl rfl)⟩
set_option maxRecDepth 20000 in
theorem mo_L_ahead : MOw m_L_ahead 5 := ⟨by decide, (inC6 (i := 214) rfl rfl), (inC1 (i := 0) rfl rfl), ⟨nh_17.1, nh_17.2, pd_54⟩, by decide +kernel, (inC6 (i := 213) rfl rfl)⟩
set_option maxRecDepth 20000 in
theorem mo_L_trial : MOw m_L_trial 4 := ⟨by decide, (inC6 (i := 221) rfl rfl), (inC1 (i := 0) rfl rfl), ⟨nh_17.1, nh_17.2, pd_55⟩, by decide +kernel, (inC6 (i := 220) rfl rfl)⟩
set_option maxRecDepth 20000 in
theorem mo_L_span : MOw m_L_span 4 := ⟨by decide, (inC6 (i := 232) rfl rfl), (inC1 (i := 0) rfl rfl), ⟨nh_17.1, nh_17.2, pd_55⟩, by decide +kernel, (inC6 (i := 231) rfl rfl)⟩
set_option maxRecDepth 20000 in
theorem mo_L_led : MOw m_L_led 4 := ⟨by decide, (inC6 (i := 239) rfl rfl), (inC1 (i := 0) rfl rfl), ⟨nh_17.1, nh_17.2, pd_55⟩, by decide +kernel, (inC6 (i := 238) rfl rfl)⟩
set_option maxRecDepth 20000 in
theorem mo_L_log : MOw m_L_log 4 := ⟨by decide, (inC7 (i := 19) rfl rfl), (inC1 (i := 0) rfl rfl), ⟨nh_17.1, nh_17.2, pd_52⟩, by decide +kernel, (inC7 (i := 18) rfl rfl)⟩
set_option maxRecDepth 20000 in
theorem lX11_1 : inT (.methodLink RX11 1 Lib.objectInit) := (inC1 (i := 35) rfl rfl)
set_option maxRecDepth 20000 in
theorem lX11_9 : LKn RX11 9 m_X7_init := ⟨"PutOffParade", inD1 (i := 40) rfl⟩
set_option maxRecDepth 20000 in
theorem lX11_18 : LK RX11 18 m_X6_init := (inC1 (i := 56) rfl rfl)
set_option maxRecDepth 20000 in
theorem lX11_25 : LK RX11 25 m_X3_init := (inC2 (i := 4) rfl rfl)
set_option maxRecDepth 20000 in
theorem lX11_36 : LKn RX11 36 m_X5_init := ⟨"PutOffParade", inD2 (i := 60) rfl⟩
set_option maxRecDepth 20000 in
theorem lX11_43 : LKn RX11 43 m_X2_init := ⟨"PutOffParade", inD2 (i := 62) rfl⟩
set_option maxRecDepth 20000 in
theorem lX11_50 : LKn RX11 50 m_X0_init := ⟨"PutOffParade", inD2 (i := 65) rfl⟩
set_option maxRecDepth 20000 in
theorem lX11_71 : LK RX11 71 m_X7_append := (inC2 (i := 124) rfl rfl)
set_option maxRecDepth 20000 in
theorem lX11_78 : LK RX11 78 m_X5_copyFrom := (inC3 (i := 106) rfl rfl)
set_option maxRecDepth 20000 in
theorem lX11_100 : LK RX11 100 m_X2_clear := (inC5 (i := 77) rfl rfl)
set_option maxRecDepth 20000 in
theorem lX11_104 : LK RX11 104 m_X2_copyFrom := (inC3 (i := 191) rfl rfl)
set_option maxRecDepth 20000 in
theorem lX11_110 : LK RX11 110 m_X11_needPerson := (inC5 (i := 93) rfl rfl)
set_option maxRecDepth 20000 in
theorem lX11_117 : LK RX11 117 m_X11_at := (inC3 (i := 63) rfl rfl)
set_option maxRecDepth 20000 in
theorem lX11_124 : LK RX11 124 m_X5_ownedBy := (inC5 (i := 112) rfl rfl)
set_option maxRecDepth 20000 in
theorem lX11_128 : LK RX11 128 m_X5_loadOf := (inC3 (i := 80) rfl rfl)
set_option maxRecDepth 20000 in
theorem lX11_131 : LK RX11 131 m_X11_needsOf := (inC5 (i := 113) rfl rfl)
set_option maxRecDepth 20000 in
theorem lX11_135 : LK RX11 135 m_X11_shareOf := (inC5 (i := 116) rfl rfl)
set_option maxRecDepth 20000 in
theorem lX11_141 : LK RX11 141 m_X11_needDuty := (inC5 (i := 142) rfl rfl)
set_option maxRecDepth 20000 in
theorem lX11_162 : LK RX11 162 m_X5_isReady := (inC5 (i := 146) rfl rfl)
set_option maxRecDepth 20000 in
theorem lX11_166 : LK RX11 166 m_X2_growthOf := (inC5 (i := 147) rfl rfl)
set_option maxRecDepth 20000 in
theorem lX11_170 : LK RX11 170 m_X2_shameOf := (inC3 (i := 93) rfl rfl)
set_option maxRecDepth 20000 in
theorem lX11_173 : LK RX11 173 m_X5_placeOf := (inC5 (i := 148) rfl rfl)
set_option maxRecDepth 20000 in
theorem lX11_176 : LK RX11 176 m_X5_passesOf := (inC5 (i := 149) rfl rfl)
set_option maxRecDepth 20000 in
theorem lX11_200 : LK RX11 200 m_X5_bitsIn := (inC2 (i := 140) rfl rfl)
set_option maxRecDepth 20000 in
theorem lX11_203 : LK RX11 203 m_X5_readyBits := (inC2 (i := 150) rfl rfl)
set_option maxRecDepth 20000 in
theorem lX11_207 : LK RX11 207 m_X11_shameOfWaiting := (inC2 (i := 166) rfl rfl)
set_option maxRecDepth 20000 in
theorem lX11_220 : LK RX11 220 m_X5_canBits := (inC2 (i := 225) rfl rfl)
set_option maxRecDepth 20000 in
theorem lX11_223 : LK RX11 223 m_X11_has := (inC5 (i := 158) rfl rfl)
set_option maxRecDepth 20000 in
theorem lX11_230 : LK RX11 230 m_X11_rememberAct := (inC5 (i := 174) rfl rfl)
set_option maxRecDepth 20000 in
theorem lX11_233 : LK RX11 233 m_X5_finish := (inC3 (i := 164) rfl rfl)
set_option maxRecDepth 20000 in
theorem lX11_236 : LK RX11 236 m_X11_needState := (inC5 (i := 185) rfl rfl)
set_option maxRecDepth 20000 in
theorem lX11_240 : LK RX11 240 m_X5_growOlder := (inC5 (i := 189) rfl rfl)
set_option maxRecDepth 20000 in
theorem lX11_243 : LK RX11 243 m_X11_setAt := (inC3 (i := 159) rfl rfl)
set_option maxRecDepth 20000 in
theorem lX11_247 : LK RX11 247 m_X11_needTwo := (inC5 (i := 211) rfl rfl)
set_option maxRecDepth 20000 in
theorem lX11_250 : LK RX11 250 m_X11_needNumber := (inC5 (i := 228) rfl rfl)
set_option maxRecDepth 20000 in
theorem lX11_254 : LK RX11 254 m_X5_passDay := (inC5 (i := 238) rfl rfl)
set_option maxRecDepth 20000 in
theorem lX11_258 : LK RX11 258 m_X11_letParadeGoBy := (inC5 (i := 239) rfl rfl)
set_option maxRecDepth 20000 in
theorem lX11_261 : LK RX11 261 m_J6_bitCount_0f7a4 := (inC6 (i := 9) rfl rfl)
set_option maxRecDepth 20000 in
theorem lX11_266 : LK RX11 266 m_X5_dutyAt := (inC2 (i := 213) rfl rfl)
set_option maxRecDepth 20000 in
theorem lX11_269 : LK RX11 269 m_X11_needKerb := (inC6 (i := 17) rfl rfl)
set_option maxRecDepth 20000 in
theorem lX11_272 : LK RX11 272 m_X5_kerbAt := (inC6 (i := 27) rfl rfl)
set_option maxRecDepth 20000 in
theorem lX11_275 : LK RX11 275 m_X0_mostCalled := (inC3 (i := 8) rfl rfl)
set_option maxRecDepth 20000 in
theorem lX11_278 : LK RX11 278 m_X0_leastShame := (inC6 (i := 45) rfl rfl)
set_option maxRecDepth 20000 in
theorem lX11_282 : LK RX11 282 m_X2_shameOfSet := (inC2 (i := 170) rfl rfl)
set_option maxRecDepth 20000 in
theorem lX11_285 : LK RX11 285 m_X4_hoursTill := (inC3 (i := 27) rfl rfl)
set_option maxRecDepth 20000 in
theorem lX11_290 : inT (.methodLink RX11 290 Lib.Math.max.name) := (inC3 (i := 47) rfl rfl)
set_option maxRecDepth 20000 in
theorem lX11_295 : LK RX11 295 m_X4_ringBits := (inC3 (i := 52) rfl rfl)
set_option maxRecDepth 20000 in
theorem lX11_298 : LK RX11 298 m_X4_chainOf := (inC6 (i := 70) rfl rfl)
set_option maxRecDepth 20000 in
theorem lX11_301 : LK RX11 301 m_X4_leaningOn := (inC6 (i := 78) rfl rfl)
set_option maxRecDepth 20000 in
theorem lX11_304 : LK RX11 304 m_X4_hoursTillYoung := (inC6 (i := 95) rfl rfl)
set_option maxRecDepth 20000 in
theorem lX11_307 : LK RX11 307 m_X5_olderThan := (inC3 (i := 61) rfl rfl)
set_option maxRecDepth 20000 in
theorem lX11_310 : LK RX11 310 m_X11_takeWhoFits := (inC6 (i := 113) rfl rfl)
set_option maxRecDepth 20000 in
theorem lX11_313 : LK RX11 313 m_X11_kerbToAskFor := (inC6 (i := 133) rfl rfl)
set_option maxRecDepth 20000 in
theorem lX11_316 : LK RX11 316 m_X11_isGap := (inC3 (i := 57) rfl rfl)
set_option maxRecDepth 20000 in
theorem lX11_319 : LK RX11 319 m_X11_bit := (inC2 (i := 177) rfl rfl)
set_option maxRecDepth 20000 in
theorem lX11_322 : LK RX11 322 m_X0_firstSwap := (inC6 (i := 144) rfl rfl)
set_option maxRecDepth 20000 in
theorem lX11_326 : LK RX11 326 m_X0_restingChoices := (inC6 (i := 160) rfl rfl)
set_option maxRecDepth 20000 in
theorem lX11_329 : LK RX11 329 m_X5_isWaiting := (inC3 (i := 62) rfl rfl)
set_option maxRecDepth 20000 in
theorem lX11_332 : LK RX11 332 m_X5_areAlike := (inC3 (i := 98) rfl rfl)
set_option maxRecDepth 20000 in
theorem lX11_335 : LK RX11 335 m_X0_oddsOf := (inC6 (i := 176) rfl rfl)
set_option maxRecDepth 20000 in
theorem lX11_339 : LK RX11 339 m_X0_daysToLeaveFree := (inC6 (i := 190) rfl rfl)
set_option maxRecDepth 20000 in
theorem lX11_342 : LK RX11 342 m_X5_daysTillDone := (inC6 (i := 201) rfl rfl)
set_option maxRecDepth 20000 in
theorem lX11_346 : LK RX11 346 m_X5_daysTillNoneWaits := (inC3 (i := 119) rfl rfl)
set_option maxRecDepth 20000 in
theorem lX11_350 : inT (.methodLink RX11 350 Lib.Math.min.name) := (inC3 (i := 113) rfl rfl)
set_option maxRecDepth 20000 in
theorem lX11_356 : LK RX11 356 m_X11_shameTriedOut := (inC6 (i := 226) rfl rfl)
set_option maxRecDepth 20000 in
theorem lX11_359 : LK RX11 359 m_X1_latestMonthOf := (inC7 (i := 4) rfl rfl)
set_option maxRecDepth 20000 in
theorem lX11_362 : LK RX11 362 m_X1_rowsOf := (inC7 (i := 13) rfl rfl)
set_option maxRecDepth 20000 in
theorem lX11_365 : LK RX11 365 m_X1_valueOf := (inC7 (i := 24) rfl rfl)
set_option maxRecDepth 20000 in
theorem lX11_371 : LK RX11 371 m_X11_pastAt := (inC3 (i := 173) rfl rfl)
set_option maxRecDepth 20000 in
theorem lX11_375 : LK RX11 375 m_X5_copyAll := (inC3 (i := 177) rfl rfl)
set_option maxRecDepth 20000 in
theorem lX11_385 : LK RX11 385 m_X1_add := (inC6 (i := 3) rfl rfl)
set_option maxRecDepth 20000 in
theorem lX11_389 : LK RX11 389 m_X11_whoFits := (inC6 (i := 117) rfl rfl)
set_option maxRecDepth 20000 in
theorem lX11_392 : LK RX11 392 m_X7_byteAt := (inC6 (i := 121) rfl rfl)
set_option maxRecDepth 20000 in
theorem lX11_395 : LK RX11 395 m_X5_standingBetween := (inC6 (i := 122) rfl rfl)
set_option maxRecDepth 20000 in
theorem lX11_398 : inT (.methodLink RX11 398 arraycopyName) := (inC3 (i := 116) rfl rfl)
set_option maxRecDepth 20000 in
theorem lX0_3 : inT (.methodLink RX0 3 Lib.objectInit) := (inC2 (i := 68) rfl rfl)
set_option maxRecDepth 20000 in
theorem lX0_18 : LK RX0 18 m_X5_canBits := (inC3 (i := 12) rfl rfl)
set_option maxRecDepth 20000 in
theorem lX0_28 : LK RX0 28 m_X5_placeOf := (inC3 (i := 13) rfl rfl)
set_option maxRecDepth 20000 in
theorem lX0_32 : LKn RX0 32 m_X11_setAt := ⟨"PutOffParade", inD3 (i := 14) rfl⟩
set_option maxRecDepth 20000 in
theorem lX0_36 : LK RX0 36 m_J6_bitCount_0f7a4 := (inC3 (i := 15) rfl rfl)
set_option maxRecDepth 20000 in
theorem lX0_41 : LK RX0 41 m_X0_canBeCalledTogether := (inC3 (i := 16) rfl rfl)
set_option maxRecDepth 20000 in
theorem lX0_45 : LKn RX0 45 m_X11_has := ⟨"PutOffParade", inD3 (i := 20) rfl⟩
set_option maxRecDepth 20000 in
theorem lX0_52 : LKn RX0 52 m_X11_at := ⟨"PutOffParade", inD3 (i := 21) rfl⟩
set_option maxRecDepth 20000 in
theorem lX0_56 : LKn RX0 56 m_X11_bit := ⟨"PutOffParade", inD3 (i := 22) rfl⟩
set_option maxRecDepth 20000 in
theorem lX0_59 : LK RX0 59 m_X5_bitsIn := (inC6 (i := 49) rfl rfl)
set_option maxRecDepth 20000 in
theorem lX0_62 : LK RX0 62 m_X2_shameOf := (inC6 (i := 50) rfl rfl)
set_option maxRecDepth 20000 in
theorem lX0_71 : LKn RX0 71 m_X11_sumOver := ⟨"PutOffParade", inD6 (i := 51) rfl⟩
set_option maxRecDepth 20000 in
theorem lX0_74 : LK RX0 74 m_X0_leansWithin := (inC6 (i := 52) rfl rfl)
set_option maxRecDepth 20000 in
theorem lX0_77 : LK RX0 77 m_X5_leansFreely := (inC6 (i := 55) rfl rfl)
set_option maxRecDepth 20000 in
theorem lX0_84 : LK RX0 84 m_X5_ownedBy := (inC6 (i := 147) rfl rfl)
set_option maxRecDepth 20000 in
theorem lX0_87 : LK RX0 87 m_X0_gainOf := (inC6 (i := 148) rfl rfl)
set_option maxRecDepth 20000 in
theorem lX0_91 : LK RX0 91 m_X5_loadOf := (inC6 (i := 151) rfl rfl)
set_option maxRecDepth 20000 in
theorem lX0_97 : LKn RX0 97 m_X11_needsOf := ⟨"PutOffParade", inD6 (i := 152) rfl⟩
set_option maxRecDepth 20000 in
theorem lX0_101 : LK RX0 101 m_X0_isBest := (inC6 (i := 163) rfl rfl)
set_option maxRecDepth 20000 in
theorem lX0_105 : LK RX0 105 m_X0_payOf := (inC6 (i := 166) rfl rfl)
set_option maxRecDepth 20000 in
theorem lX0_109 : LK RX0 109 m_X0_power := (inC6 (i := 179) rfl rfl)
set_option maxRecDepth 20000 in
theorem lX0_115 : LK RX0 115 m_X0_oddsOf := (inC6 (i := 193) rfl rfl)
set_option maxRecDepth 20000 in
theorem lX1_3 : inT (.methodLink RX1 3 Lib.objectInit) := (inC1 (i := 119) rfl rfl)
set_option maxRecDepth 20000 in
theorem lX1_22 : LKn RX1 22 m_X11_copyRow := ⟨"PutOffParade", inD3 (i := 186) rfl⟩
set_option maxRecDepth 20000 in
theorem lX1_26 : LKn RX1 26 m_X11_setAt := ⟨"PutOffParade", inD6 (i := 7) rfl⟩
set_option maxRecDepth 20000 in
theorem lX1_30 : inT (.methodLink RX1 30 Lib.Math.min.name) := (inC6 (i := 8) rfl rfl)
set_option maxRecDepth 20000 in
theorem lX1_36 : LKn RX1 36 m_X11_at := ⟨"PutOffParade", inD7 (i := 12) rfl⟩
set_option maxRecDepth 20000 in
theorem lX1_40 : LK RX1 40 m_X1_valueOf := (inC7 (i := 8) rfl rfl)
set_option maxRecDepth 20000 in
theorem lX2_5 : inT (.methodLink RX2 5 Lib.objectInit) := (inC2 (i := 13) rfl rfl)
set_option maxRecDepth 20000 in
theorem lX2_37 : LKn RX2 37 m_X11_copyRow := ⟨"PutOffParade", inD3 (i := 195) rfl⟩
set_option maxRecDepth 20000 in
theorem lX2_44 : LKn RX2 44 m_X11_setAt := ⟨"PutOffParade", inD2 (i := 191) rfl⟩
set_option maxRecDepth 20000 in
theorem lX2_48 : LK RX2 48 m_X2_takeParts := (inC2 (i := 182) rfl rfl)
set_option maxRecDepth 20000 in
theorem lX2_52 : LK RX2 52 m_X2_sumOfLines := (inC2 (i := 195) rfl rfl)
set_option maxRecDepth 20000 in
theorem lX2_61 : LKn RX2 61 m_X11_at := ⟨"PutOffParade", inD2 (i := 186) rfl⟩
set_option maxRecDepth 20000 in
theorem lX2_65 : inT (.methodLink RX2 65 Lib.Math.max.name) := (inC2 (i := 206) rfl rfl)
set_option maxRecDepth 20000 in
theorem lX2_74 : LKn RX2 74 m_X11_has := ⟨"PutOffParade", inD2 (i := 174) rfl⟩
set_option maxRecDepth 20000 in
theorem lX2_78 : LK RX2 78 m_X2_shameOf := (inC2 (i := 178) rfl rfl)
set_option maxRecDepth 20000 in
theorem lX2_88 : LK RX2 88 m_X2_setPart := (inC2 (i := 187) rfl rfl)
set_option maxRecDepth 20000 in
theorem lX2_101 : LK RX2 101 m_X5_leansFreely := (inC2 (i := 194) rfl rfl)
set_option maxRecDepth 20000 in
theorem lX2_105 : LK RX2 105 m_X2_holds := (inC2 (i := 199) rfl rfl)
set_option maxRecDepth 20000 in
theorem lX2_108 : LK RX2 108 m_X2_joined := (inC2 (i := 203) rfl rfl)
set_option maxRecDepth 20000 in
theorem lX3_5 : LK RX3 5 m_X8_init := (inC2 (i := 7) rfl rfl)
set_option maxRecDepth 20000 in
theorem lX3_11 : LKn RX3 11 m_X2_init := ⟨"PutOffParade", inD2 (i := 10) rfl⟩
set_option maxRecDepth 20000 in
theorem lX3_24 : LK RX3 24 m_X3_takeKind := (inC4 (i := 73) rfl rfl)
set_option maxRecDepth 20000 in
theorem lX3_32 : LK RX3 32 m_X9_takeNumber := (inC4 (i := 87) rfl rfl)
set_option maxRecDepth 20000 in
theorem lX3_38 : LK RX3 38 m_X2_openLine := (inC4 (i := 91) rfl rfl)
set_option maxRecDepth 20000 in
theorem lX3_48 : LK RX3 48 m_X9_takeWord := (inC4 (i := 79) rfl rfl)
set_option maxRecDepth 20000 in
theorem lX3_52 : LK RX3 52 m_X3_readCondition := (inC4 (i := 97) rfl rfl)
set_option maxRecDepth 20000 in
theorem lX3_56 : LK RX3 56 m_X2_closeLine := (inC4 (i := 159) rfl rfl)
set_option maxRecDepth 20000 in
theorem lX3_75 : LK RX3 75 m_X3_openDeeper := (inC4 (i := 101) rfl rfl)
set_option maxRecDepth 20000 in
theorem lX3_78 : LK RX3 78 m_X3_readAtom := (inC4 (i := 117) rfl rfl)
set_option maxRecDepth 20000 in
theorem lX3_81 : LK RX3 81 m_X3_closeDeeper := (inC4 (i := 142) rfl rfl)
set_option maxRecDepth 20000 in
theorem lX3_84 : LK RX3 84 m_X3_joinAtHand := (inC4 (i := 151) rfl rfl)
set_option maxRecDepth 20000 in
theorem lX3_87 : LK RX3 87 m_X3_emitHeld := (inC4 (i := 146) rfl rfl)
set_option maxRecDepth 20000 in
theorem lX3_90 : LK RX3 90 m_X3_hold := (inC4 (i := 111) rfl rfl)
set_option maxRecDepth 20000 in
theorem lX3_93 : LK RX3 93 m_X9_next := (inC4 (i := 116) rfl rfl)
set_option maxRecDepth 20000 in
theorem lX3_108 : LK RX3 108 m_X9_isSign := (inC4 (i := 107) rfl rfl)
set_option maxRecDepth 20000 in
theorem lX3_112 : LKn RX3 112 m_X11_setAt := ⟨"PutOffParade", inD4 (i := 115) rfl⟩
set_option maxRecDepth 20000 in
theorem lX3_116 : LKn RX3 116 m_X11_at := ⟨"PutOffParade", inD4 (i := 150) rfl⟩
set_option maxRecDepth 20000 in
theorem lX3_120 : LK RX3 120 m_X2_emit := (inC4 (i := 123) rfl rfl)
set_option maxRecDepth 20000 in
theorem lX3_129 : LK RX3 129 m_X3_readSum := (inC4 (i := 129) rfl rfl)
set_option maxRecDepth 20000 in
theorem lX3_132 : LK RX3 132 m_X9_takeSign := (inC4 (i := 137) rfl rfl)
set_option maxRecDepth 20000 in
theorem lX3_135 : LK RX3 135 m_X3_partAtHand := (inC4 (i := 133) rfl rfl)
set_option maxRecDepth 20000 in
theorem lX4_15 : LKn RX4 15 m_X11_at := ⟨"PutOffParade", inD3 (i := 35) rfl⟩
set_option maxRecDepth 20000 in
theorem lX4_19 : LKn RX4 19 m_X11_bit := ⟨"PutOffParade", inD3 (i := 31) rfl⟩
set_option maxRecDepth 20000 in
theorem lX4_27 : LK RX4 27 m_X4_chainOf := (inC3 (i := 32) rfl rfl)
set_option maxRecDepth 20000 in
theorem lX4_33 : LKn RX4 33 m_X11_has := ⟨"PutOffParade", inD3 (i := 42) rfl⟩
set_option maxRecDepth 20000 in
theorem lX4_37 : LK RX4 37 m_X5_isWaiting := (inC3 (i := 30) rfl rfl)
set_option maxRecDepth 20000 in
theorem lX4_41 : LK RX4 41 m_X4_hoursOf := (inC3 (i := 36) rfl rfl)
set_option maxRecDepth 20000 in
theorem lX4_44 : LK RX4 44 m_X5_olderThan := (inC6 (i := 98) rfl rfl)
set_option maxRecDepth 20000 in
theorem lX4_47 : LK RX4 47 m_X5_bitsIn := (inC3 (i := 43) rfl rfl)
set_option maxRecDepth 20000 in
theorem lX4_50 : LK RX4 50 m_X4_ringBits := (inC3 (i := 39) rfl rfl)
set_option maxRecDepth 20000 in
theorem lX4_57 : LKn RX4 57 m_X11_sumOver := ⟨"PutOffParade", inD3 (i := 44) rfl⟩
set_option maxRecDepth 20000 in
theorem lX5_3 : inT (.methodLink RX5 3 Lib.objectInit) := (inC1 (i := 113) rfl rfl)
set_option maxRecDepth 20000 in
theorem lX5_51 : LKn RX5 51 m_X1_init := ⟨"PutOffParade", inD1 (i := 116) rfl⟩
set_option maxRecDepth 20000 in
theorem lX5_59 : LKn RX5 59 m_X11_copyRow := ⟨"PutOffParade", inD3 (i := 110) rfl⟩
set_option maxRecDepth 20000 in
theorem lX5_75 : LK RX5 75 m_X5_copyFrom := (inC3 (i := 181) rfl rfl)
set_option maxRecDepth 20000 in
theorem lX5_79 : LK RX5 79 m_X1_copyFrom := (inC3 (i := 182) rfl rfl)
set_option maxRecDepth 20000 in
theorem lX5_82 : LKn RX5 82 m_X11_setAt := ⟨"PutOffParade", inD3 (i := 138) rfl⟩
set_option maxRecDepth 20000 in
theorem lX5_86 : LKn RX5 86 m_X11_at := ⟨"PutOffParade", inD2 (i := 144) rfl⟩
set_option maxRecDepth 20000 in
theorem lX5_90 : LK RX5 90 m_X5_isWaiting := (inC2 (i := 158) rfl rfl)
set_option maxRecDepth 20000 in
theorem lX5_94 : LK RX5 94 m_X5_leansFreely := (inC2 (i := 162) rfl rfl)
set_option maxRecDepth 20000 in
theorem lX5_97 : LKn RX5 97 m_X11_bit := ⟨"PutOffParade", inD2 (i := 147) rfl⟩
set_option maxRecDepth 20000 in
theorem lX5_101 : LK RX5 101 m_X5_isReady := (inC2 (i := 154) rfl rfl)
set_option maxRecDepth 20000 in
theorem lX5_104 : LK RX5 104 m_X5_bitsIn := (inC2 (i := 233) rfl rfl)
set_option maxRecDepth 20000 in
theorem lX5_107 : LK RX5 107 m_X5_ownedBy := (inC3 (i := 84) rfl rfl)
set_option maxRecDepth 20000 in
theorem lX5_110 : LKn RX5 110 m_X11_sumOver := ⟨"PutOffParade", inD3 (i := 88) rfl⟩
set_option maxRecDepth 20000 in
theorem lX5_113 : LK RX5 113 m_X5_placeOf := (inC2 (i := 217) rfl rfl)
set_option maxRecDepth 20000 in
theorem lX5_116 : LK RX5 116 m_X5_olderThan := (inC2 (i := 234) rfl rfl)
set_option maxRecDepth 20000 in
theorem lX5_119 : LK RX5 119 m_J6_bitCount_0f7a4 := (inC2 (i := 238) rfl rfl)
set_option maxRecDepth 20000 in
theorem lX5_124 : LK RX5 124 m_X5_passesOf := (inC2 (i := 229) rfl rfl)
set_option maxRecDepth 20000 in
theorem lX5_127 : inT (.methodLink RX5 127 Lib.Math.min.name) := (inC3 (i := 137) rfl rfl)
set_option maxRecDepth 20000 in
theorem lX5_133 : LK RX5 133 m_X5_draw := (inC3 (i := 127) rfl rfl)
set_option maxRecDepth 20000 in
theorem lX5_137 : LK RX5 137 m_X5_work := (inC3 (i := 132) rfl rfl)
set_option maxRecDepth 20000 in
theorem lX5_140 : LK RX5 140 m_X5_passMonth := (inC3 (i := 143) rfl rfl)
set_option maxRecDepth 20000 in
theorem lX5_144 : LK RX5 144 m_X5_passDay := (inC3 (i := 123) rfl rfl)
set_option maxRecDepth 20000 in
theorem lX5_149 : LKn RX5 149 m_X11_has := ⟨"PutOffParade", inD3 (i := 136) rfl⟩
set_option maxRecDepth 20000 in
theorem lX5_153 : LK RX5 153 m_X5_finish := (inC3 (i := 139) rfl rfl)
set_option maxRecDepth 20000 in
theorem lX5_157 : LK RX5 157 m_X2_growthOf := (inC3 (i := 147) rfl rfl)
set_option maxRecDepth 20000 in
theorem lX5_163 : LK RX5 163 m_X5_growOlder := (inC3 (i := 151) rfl rfl)
set_option maxRecDepth 20000 in
theorem lX6_5 : LK RX6 5 m_X8_init := (inC1 (i := 59) rfl rfl)
set_option maxRecDepth 20000 in
theorem lX6_13 : LKn RX6 13 m_X5_init := ⟨"PutOffParade", inD1 (i := 110) rfl⟩
set_option maxRecDepth 20000 in
theorem lX6_39 : LK RX6 39 m_X6_readPerson := (inC4 (i := 168) rfl rfl)
set_option maxRecDepth 20000 in
theorem lX6_49 : LK RX6 49 m_X6_readDuty := (inC4 (i := 189) rfl rfl)
set_option maxRecDepth 20000 in
theorem lX6_55 : LK RX6 55 m_X9_takeWord := (inC4 (i := 179) rfl rfl)
set_option maxRecDepth 20000 in
theorem lX6_59 : LK RX6 59 m_X6_readForgotten := (inC4 (i := 209) rfl rfl)
set_option maxRecDepth 20000 in
theorem lX6_62 : LK RX6 62 m_X6_readSetting := (inC4 (i := 215) rfl rfl)
set_option maxRecDepth 20000 in
theorem lX6_65 : LK RX6 65 m_X9_next := (inC4 (i := 172) rfl rfl)
set_option maxRecDepth 20000 in
theorem lX6_71 : LK RX6 71 m_X6_readNumberOf := (inC4 (i := 175) rfl rfl)
set_option maxRecDepth 20000 in
theorem lX6_78 : LK RX6 78 m_X5_addPerson := (inC4 (i := 183) rfl rfl)
set_option maxRecDepth 20000 in
theorem lX6_97 : LK RX6 97 m_X5_addDuty := (inC4 (i := 203) rfl rfl)
set_option maxRecDepth 20000 in
theorem lX6_107 : LK RX6 107 m_X5_isWaiting := (inC4 (i := 213) rfl rfl)
set_option maxRecDepth 20000 in
theorem lX6_115 : LKn RX6 115 m_X11_setAt := ⟨"PutOffParade", inD4 (i := 214) rfl⟩
set_option maxRecDepth 20000 in
theorem lX6_149 : LK RX6 149 m_X9_takeNumber := (inC4 (i := 180) rfl rfl)
set_option maxRecDepth 20000 in
theorem lX7_3 : inT (.methodLink RX7 3 Lib.objectInit) := (inC1 (i := 43) rfl rfl)
set_option maxRecDepth 20000 in
theorem lX8_3 : inT (.methodLink RX8 3 Lib.objectInit) := (inC1 (i := 62) rfl rfl)
set_option maxRecDepth 20000 in
theorem lX8_11 : LKn RX8 11 m_X9_init := ⟨"PutOffParade", inD1 (i := 65) rfl⟩
set_option maxRecDepth 20000 in
theorem lX8_22 : LK RX8 22 m_X9_scan := (inC3 (i := 215) rfl rfl)
set_option maxRecDepth 20000 in
theorem lX8_26 : LK RX8 26 m_X9_isEnd := (inC4 (i := 63) rfl rfl)
set_option maxRecDepth 20000 in
theorem lX8_36 : LK RX8 36 m_X9_takeSign := (inC4 (i := 229) rfl rfl)
set_option maxRecDepth 20000 in
theorem lX9_3 : inT (.methodLink RX9 3 Lib.objectInit) := (inC1 (i := 68) rfl rfl)
set_option maxRecDepth 20000 in
theorem lX9_33 : LK RX9 33 m_X7_byteAt := (inC3 (i := 219) rfl rfl)
set_option maxRecDepth 20000 in
theorem lX9_37 : LK RX9 37 m_X9_kindOf := (inC3 (i := 223) rfl rfl)
set_option maxRecDepth 20000 in
theorem lX9_40 : LK RX9 40 m_X9_open := (inC3 (i := 226) rfl rfl)
set_option maxRecDepth 20000 in
theorem lX9_44 : LKn RX9 44 m_X11_setAt := ⟨"PutOffParade", inD3 (i := 230) rfl⟩
set_option maxRecDepth 20000 in
theorem lX9_48 : LK RX9 48 m_X9_valueOf := (inC3 (i := 231) rfl rfl)
set_option maxRecDepth 20000 in
theorem lX9_55 : LK RX9 55 m_X9_next := (inC4 (i := 58) rfl rfl)
set_option maxRecDepth 20000 in
theorem lX9_58 : LKn RX9 58 m_X11_at := ⟨"PutOffParade", inD3 (i := 235) rfl⟩
set_option maxRecDepth 20000 in
theorem lX9_62 : LK RX9 62 m_X9_wordOf := (inC3 (i := 236) rfl rfl)
set_option maxRecDepth 20000 in
theorem lX9_65 : LK RX9 65 m_X9_numberOf := (inC4 (i := 54) rfl rfl)
set_option maxRecDepth 20000 in
theorem lX9_78 : LK RX9 78 m_X9_isText := (inC4 (i := 2) rfl rfl)
set_option maxRecDepth 20000 in
theorem lX9_82 : LK RX9 82 m_J0_length_8abf5 := (inC4 (i := 6) rfl rfl)
set_option maxRecDepth 20000 in
theorem lX9_87 : LK RX9 87 m_J0_charAt_5068e := (inC4 (i := 16) rfl rfl)
set_option maxRecDepth 20000 in
theorem lX9_91 : inT (.methodLink RX9 91 Lib.Math.min.name) := (inC4 (i := 62) rfl rfl)
set_option maxRecDepth 20000 in
theorem lX9_110 : LK RX9 110 m_X9_isSign := (inC4 (i := 141) rfl rfl)
set_option maxRecDepth 20000 in
set_option maxRecDepth 20000 in
set_option maxRecDepth 20000 in
set_option maxRecDepth 20000 in
set_option maxRecDepth 20000 in
set_option maxRecDepth 20000 in
set_option maxRecDepth 20000 in
set_option maxRecDepth 20000 in
set_option maxRecDepth 20000 in
set_option maxRecDepth 20000 in
set_option maxRecDepth 20000 in
set_option maxRecDepth 20000 in
set_option maxRecDepth 20000 in
set_option maxRecDepth 20000 in
set_option maxRecDepth 20000 in
set_option maxRecDepth 20000 in
set_option maxRecDepth 20000 in
set_option maxRecDepth 20000 in
set_option maxRecDepth 20000 in
set_option maxRecDepth 20000 in
set_option maxRecDepth 20000 in
set_option maxRecDepth 20000 in
set_option maxRecDepth 20000 in
set_option maxRecDepth 20000 in
set_option maxRecDepth 20000 in
set_option maxRecDepth 20000 in
set_option maxRecDepth 20000 in
set_option maxRecDepth 20000 in
set_option maxRecDepth 20000 in
set_option maxRecDepth 20000 in
set_option maxRecDepth 20000 in
set_option maxRecDepth 20000 in
set_option maxRecDepth 20000 in
set_option maxRecDepth 20000 in
set_option maxRecDepth 20000 in
set_option maxRecDepth 20000 in
set_option maxRecDepth 20000 in
set_option maxRecDepth 20000 in
set_option maxRecDepth 20000 in
set_option maxRecDepth 20000 in
set_option maxRecDepth 20000 in
set_option maxRecDepth 20000 in
set_option maxRecDepth 20000 in
set_option maxRecDepth 20000 in
set_option maxRecDepth 20000 in
set_option maxRecDepth 20000 in
set_option maxRecDepth 20000 in
set_option maxRecDepth 20000 in
set_option maxRecDepth 20000 in
set_option maxRecDepth 20000 in
set_option maxRecDepth 20000 in
set_option maxRecDepth 20000 in
set_option maxRecDepth 20000 in
set_option maxRecDepth 20000 in
set_option maxRecDepth 20000 in
set_option maxRecDepth 20000 in
set_option maxRecDepth 20000 in
set_option maxRecDepth 20000 in
set_option maxRecDepth 20000 in
set_option maxRecDepth 20000 in
set_option maxRecDepth 20000 in
set_option maxRecDepth 20000 in
set_option maxRecDepth 20000 in
set_option maxRecDepth 20000 in
set_option maxRecDepth 20000 in
set_option maxRecDepth 20000 in
set_option maxRecDepth 20000 in
set_option maxRecDepth 20000 in
set_option maxRecDepth 20000 in
set_option maxRecDepth 20000 in
set_option maxRecDepth 20000 in
set_option maxRecDepth 20000 in
set_option maxRecDepth 20000 in
set_option maxRecDepth 20000 in
set_option maxRecDepth 20000 in
set_option maxRecDepth 20000 in
set_option maxRecDepth 20000 in
set_option maxRecDepth 20000 in
set_option maxRecDepth 20000 in
set_option maxRecDepth 20000 in
set_option maxRecDepth 20000 in
set_option maxRecDepth 20000 in
set_option maxRecDepth 20000 in
set_option maxRecDepth 20000 in
set_option maxRecDepth 20000 in
set_option maxRecDepth 20000 in
set_option maxRecDepth 20000 in
set_option maxRecDepth 20000 in
set_option maxRecDepth 20000 in
set_option maxRecDepth 20000 in
set_option maxRecDepth 20000 in
set_option maxRecDepth 20000 in
set_option maxRecDepth 20000 in
set_option maxRecDepth 20000 in
set_option maxRecDepth 20000 in
set_option maxRecDepth 20000 in
set_option maxRecDepth 20000 in
set_option maxRecDepth 20000 in
set_option maxRecDepth 20000 in
set_option maxRecDepth 20000 in
set_option maxRecDepth 20000 in
set_option maxRecDepth 20000 in
set_option maxRecDepth 20000 in
set_option maxRecDepth 20000 in
set_option maxRecDepth 20000 in
set_option maxRecDepth 20000 in
set_option maxRecDepth 20000 in
set_option maxRecDepth 20000 in
set_option maxRecDepth 20000 in
set_option maxRecDepth 20000 in
set_option maxRecDepth 20000 in
set_option maxRecDepth 20000 in
set_option maxRecDepth 20000 in
set_option maxRecDepth 20000 in
set_option maxRecDepth 20000 in
set_option maxRecDepth 20000 in
set_option maxRecDepth 20000 in
set_option maxRecDepth 20000 in
set_option maxRecDepth 20000 in
set_option maxRecDepth 20000 in
set_option maxRecDepth 20000 in
set_option maxRecDepth 20000 in
set_option maxRecDepth 20000 in
set_option maxRecDepth 20000 in
set_option maxRecDepth 20000 in
set_option maxRecDepth 20000 in
set_option maxRecDepth 20000 in
set_option maxRecDepth 20000 in
set_option maxRecDepth 20000 in
set_option maxRecDepth 20000 in
set_option maxRecDepth 20000 in
set_option maxRecDepth 20000 in
set_option maxRecDepth 20000 in
set_option maxRecDepth 20000 in
set_option maxRecDepth 20000 in
set_option maxRecDepth 20000 in
set_option maxRecDepth 20000 in
set_option maxRecDepth 20000 in
set_option maxRecDepth 20000 in
set_option maxRecDepth 20000 in
set_option maxRecDepth 20000 in
set_option maxRecDepth 20000 in
set_option maxRecDepth 20000 in
set_option maxRecDepth 20000 in
set_option maxRecDepth 20000 in
set_option maxRecDepth 20000 in
set_option maxRecDepth 20000 in
set_option maxRecDepth 20000 in
set_option maxRecDepth 20000 in
set_option maxRecDepth 20000 in
set_option maxRecDepth 20000 in
set_option maxRecDepth 20000 in
set_option maxRecDepth 20000 in
set_option maxRecDepth 20000 in
set_option maxRecDepth 20000 in
theorem lX12_7 : inT (.methodLink RX12 7 Lib.objectInit) := (inC7 (i := 34) rfl rfl)
set_option maxRecDepth 20000 in
theorem lX12_56 : LK RX12 56 m_X12_personAt := (inC7 (i := 178) rfl rfl)
set_option maxRecDepth 20000 in
theorem lX12_60 : LK RX12 60 m_X12_at := (inC7 (i := 199) rfl rfl)
set_option maxRecDepth 20000 in
theorem lX12_63 : LK RX12 63 m_X12_of := (inC7 (i := 211) rfl rfl)
set_option maxRecDepth 20000 in
theorem lX12_66 : LK RX12 66 m_X12_people := (inC7 (i := 164) rfl rfl)
set_option maxRecDepth 20000 in
theorem lX12_70 : LK RX12 70 m_X12_in := (inC8 (i := 92) rfl rfl)
set_option maxRecDepth 20000 in
theorem lX12_74 : LK RX12 74 m_X12_duties := (inC7 (i := 186) rfl rfl)
set_option maxRecDepth 20000 in
theorem lX12_87 : LK RX12 87 m_X12_isAt := (inC7 (i := 137) rfl rfl)
set_option maxRecDepth 20000 in
theorem lX12_94 : LK RX12 94 m_X12_blanks := (inC7 (i := 133) rfl rfl)
set_option maxRecDepth 20000 in
theorem lX12_97 : LK RX12 97 m_J0_length_8abf5 := (inC7 (i := 158) rfl rfl)
set_option maxRecDepth 20000 in
theorem lX12_102 : LK RX12 102 m_J0_charAt_5068e := (inC7 (i := 159) rfl rfl)
set_option maxRecDepth 20000 in
theorem lX12_106 : LK RX12 106 m_X12_letters := (inC7 (i := 145) rfl rfl)
set_option maxRecDepth 20000 in
theorem lX12_109 : LK RX12 109 m_X12_isWord := (inC7 (i := 154) rfl rfl)
set_option maxRecDepth 20000 in
theorem lX12_113 : LK RX12 113 m_X12_number := (inC7 (i := 173) rfl rfl)
set_option maxRecDepth 20000 in
theorem lX12_117 : LK RX12 117 m_X12_numberBehind := (inC7 (i := 169) rfl rfl)
set_option maxRecDepth 20000 in
theorem lX12_128 : LK RX12 128 m_X12_passes := (inC7 (i := 193) rfl rfl)
set_option maxRecDepth 20000 in
theorem lX12_135 : LK RX12 135 m_X12_isWaiting := (inC7 (i := 207) rfl rfl)
set_option maxRecDepth 20000 in
theorem lX12_141 : LK RX12 141 m_X12_readPerson := (inC7 (i := 160) rfl rfl)
set_option maxRecDepth 20000 in
theorem lX12_147 : LK RX12 147 m_X12_readDuty := (inC7 (i := 182) rfl rfl)
set_option maxRecDepth 20000 in
theorem lX12_152 : LK RX12 152 m_X12_readForgotten := (inC7 (i := 203) rfl rfl)
set_option maxRecDepth 20000 in
theorem lX12_157 : LK RX12 157 m_X12_readNumber := (inC7 (i := 216) rfl rfl)
set_option maxRecDepth 20000 in
theorem lX12_177 : LK RX12 177 m_X12_wordOfPart := (inC8 (i := 27) rfl rfl)
set_option maxRecDepth 20000 in
theorem lX12_180 : LK RX12 180 m_X12_emits := (inC8 (i := 9) rfl rfl)
set_option maxRecDepth 20000 in
theorem lX12_184 : LK RX12 184 m_X12_readPart := (inC8 (i := 23) rfl rfl)
set_option maxRecDepth 20000 in
theorem lX12_187 : LK RX12 187 m_X12_sign := (inC8 (i := 4) rfl rfl)
set_option maxRecDepth 20000 in
theorem lX12_197 : LK RX12 197 m_X12_readCond := (inC7 (i := 232) rfl rfl)
set_option maxRecDepth 20000 in
theorem lX12_202 : LK RX12 202 m_X12_readAtom := (inC8 (i := 0) rfl rfl)
set_option maxRecDepth 20000 in
theorem lX12_205 : LK RX12 205 m_X12_readTag := (inC8 (i := 13) rfl rfl)
set_option maxRecDepth 20000 in
theorem lX12_208 : LK RX12 208 m_X12_readSum := (inC8 (i := 19) rfl rfl)
set_option maxRecDepth 20000 in
theorem lX12_213 : LK RX12 213 m_X12_readAllOf := (inC7 (i := 236) rfl rfl)
set_option maxRecDepth 20000 in
theorem lX12_226 : LK RX12 226 m_X12_readStreetLine := (inC7 (i := 149) rfl rfl)
set_option maxRecDepth 20000 in
theorem lX12_229 : LK RX12 229 m_X12_readLawLine := (inC7 (i := 224) rfl rfl)
set_option maxRecDepth 20000 in
theorem lX12_232 : LK RX12 232 m_X12_uses := (inC7 (i := 129) rfl rfl)
set_option maxRecDepth 20000 in
theorem lX12_235 : LK RX12 235 m_X12_readLine := (inC7 (i := 141) rfl rfl)
set_option maxRecDepth 20000 in
theorem lX12_239 : LK RX12 239 m_X12_readAll := (inC7 (i := 125) rfl rfl)
set_option maxRecDepth 20000 in
theorem lX12_243 : LK RX12 243 m_X12_throwsIf := (inC8 (i := 36) rfl rfl)
set_option maxRecDepth 20000 in
theorem lX12_246 : LK RX12 246 m_X12_isDone := (inC8 (i := 76) rfl rfl)
set_option maxRecDepth 20000 in
theorem lX12_249 : LK RX12 249 m_X12_leansWell := (inC8 (i := 72) rfl rfl)
set_option maxRecDepth 20000 in
theorem lX12_252 : LK RX12 252 m_X12_ofPerson := (inC8 (i := 161) rfl rfl)
set_option maxRecDepth 20000 in
theorem lX12_255 : LK RX12 255 m_X12_factOf := (inC8 (i := 188) rfl rfl)
set_option maxRecDepth 20000 in
theorem lX12_259 : LK RX12 259 m_X12_holdsLine := (inC8 (i := 184) rfl rfl)
set_option maxRecDepth 20000 in
theorem lX12_262 : LK RX12 262 m_X12_sumOf := (inC8 (i := 180) rfl rfl)
set_option maxRecDepth 20000 in
theorem lX12_265 : inT (.methodLink RX12 265 Lib.Math.max.name) := (inC8 (i := 192) rfl rfl)
set_option maxRecDepth 20000 in
theorem lX12_270 : LK RX12 270 m_X12_goesAhead := (inC8 (i := 52) rfl rfl)
set_option maxRecDepth 20000 in
theorem lX12_273 : LK RX12 273 m_X12_isReady := (inC8 (i := 68) rfl rfl)
set_option maxRecDepth 20000 in
theorem lX12_276 : LK RX12 276 m_X12_passesBy := (inC8 (i := 80) rfl rfl)
set_option maxRecDepth 20000 in
theorem lX12_280 : LK RX12 280 m_X12_canBeCalled := (inC8 (i := 64) rfl rfl)
set_option maxRecDepth 20000 in
theorem lX12_283 : LK RX12 283 m_X12_placeOf := (inC8 (i := 48) rfl rfl)
set_option maxRecDepth 20000 in
theorem lX12_286 : LK RX12 286 m_X12_canOnes := (inC8 (i := 60) rfl rfl)
set_option maxRecDepth 20000 in
theorem lX12_289 : LK RX12 289 m_X12_noDuty := (inC8 (i := 88) rfl rfl)
set_option maxRecDepth 20000 in
theorem lX12_292 : LK RX12 292 m_X12_noKerb := (inC8 (i := 95) rfl rfl)
set_option maxRecDepth 20000 in
theorem lX12_295 : inT (.methodLink RX12 295 Lib.Math.min.name) := (inC8 (i := 109) rfl rfl)
set_option maxRecDepth 20000 in
theorem lX12_298 : LK RX12 298 m_X12_noHour := (inC8 (i := 102) rfl rfl)
set_option maxRecDepth 20000 in
theorem lX12_301 : LK RX12 301 m_X12_whereAt := (inC8 (i := 105) rfl rfl)
set_option maxRecDepth 20000 in
theorem lX12_304 : LK RX12 304 m_X12_has := (inC8 (i := 123) rfl rfl)
set_option maxRecDepth 20000 in
theorem lX12_307 : inT (.methodLink RX12 307 Lib.Math.abs.name) := (inC8 (i := 126) rfl rfl)
set_option maxRecDepth 20000 in
theorem lX12_310 : LK RX12 310 m_J6_bitCount_0f7a4 := (inC8 (i := 118) rfl rfl)
set_option maxRecDepth 20000 in
theorem lX12_315 : LK RX12 315 m_X12_canAll := (inC8 (i := 119) rfl rfl)
set_option maxRecDepth 20000 in
theorem lX12_318 : LK RX12 318 m_X12_shamesBy := (inC8 (i := 176) rfl rfl)
set_option maxRecDepth 20000 in
theorem lX12_321 : LK RX12 321 m_X12_ownedBy := (inC8 (i := 137) rfl rfl)
set_option maxRecDepth 20000 in
theorem lX12_324 : LK RX12 324 m_X12_ofState := (inC8 (i := 149) rfl rfl)
set_option maxRecDepth 20000 in
theorem lX12_327 : LK RX12 327 m_X12_waitingOf := (inC8 (i := 145) rfl rfl)
set_option maxRecDepth 20000 in
theorem lX12_330 : LK RX12 330 m_X12_hoursOf := (inC8 (i := 153) rfl rfl)
set_option maxRecDepth 20000 in
theorem lX12_333 : LK RX12 333 m_X12_loadOf := (inC8 (i := 141) rfl rfl)
set_option maxRecDepth 20000 in
theorem lX12_336 : LK RX12 336 m_X12_daysFor := (inC8 (i := 165) rfl rfl)
set_option maxRecDepth 20000 in
theorem lX12_339 : LK RX12 339 m_X12_shameOf := (inC8 (i := 172) rfl rfl)
set_option maxRecDepth 20000 in
theorem lX12_342 : LK RX12 342 m_X12_noPerson := (inC8 (i := 133) rfl rfl)
set_option maxRecDepth 20000 in
theorem lX12_345 : LK RX12 345 m_X12_needsOf := (inC8 (i := 157) rfl rfl)
set_option maxRecDepth 20000 in
theorem lX12_348 : LK RX12 348 m_X12_shareOf := (inC8 (i := 168) rfl rfl)
set_option maxRecDepth 20000 in
theorem lX12_351 : LK RX12 351 m_X12_growsBy := (inC8 (i := 197) rfl rfl)
set_option maxRecDepth 20000 in
theorem lX12_354 : LK RX12 354 m_X12_isNow := (inC8 (i := 213) rfl rfl)
set_option maxRecDepth 20000 in
theorem lX12_357 : LK RX12 357 m_X12_remembers := (inC8 (i := 205) rfl rfl)
set_option maxRecDepth 20000 in
theorem lX12_360 : LK RX12 360 m_X12_finishes := (inC8 (i := 209) rfl rfl)
set_option maxRecDepth 20000 in
theorem lX12_364 : LK RX12 364 m_X12_isForgotten := (inC8 (i := 229) rfl rfl)
set_option maxRecDepth 20000 in
theorem lX12_367 : LK RX12 367 m_X12_hasTool := (inC9 (i := 26) rfl rfl)
set_option maxRecDepth 20000 in
theorem lX12_370 : LK RX12 370 m_X12_tells := (inC9 (i := 38) rfl rfl)
set_option maxRecDepth 20000 in
theorem lX12_373 : LK RX12 373 m_X12_drawn := (inC9 (i := 17) rfl rfl)
set_option maxRecDepth 20000 in
theorem lX12_376 : LK RX12 376 m_X12_works := (inC9 (i := 22) rfl rfl)
set_option maxRecDepth 20000 in
theorem lX12_379 : LK RX12 379 m_X12_growsOlder := (inC9 (i := 30) rfl rfl)
set_option maxRecDepth 20000 in
theorem lX12_382 : LK RX12 382 m_X12_goesBy := (inC9 (i := 34) rfl rfl)
set_option maxRecDepth 20000 in
theorem lX12_385 : LK RX12 385 m_X12_oneDay := (inC9 (i := 13) rfl rfl)
set_option maxRecDepth 20000 in
theorem lX12_388 : LK RX12 388 m_X12_goesOn := (inC9 (i := 9) rfl rfl)
set_option maxRecDepth 20000 in
theorem lX12_392 : LK RX12 392 m_X12_noDays := (inC9 (i := 46) rfl rfl)
set_option maxRecDepth 20000 in
theorem lX12_395 : LK RX12 395 m_X12_keepsAll := (inC9 (i := 49) rfl rfl)
set_option maxRecDepth 20000 in
theorem lX12_398 : LK RX12 398 m_X12_bringsBack := (inC9 (i := 53) rfl rfl)
set_option maxRecDepth 20000 in
theorem lX12_402 : LK RX12 402 m_X12_allDuties := (inC9 (i := 77) rfl rfl)
set_option maxRecDepth 20000 in
theorem lX12_405 : LK RX12 405 m_X12_overIn := (inC9 (i := 61) rfl rfl)
set_option maxRecDepth 20000 in
theorem lX12_408 : LK RX12 408 m_X12_orNone := (inC9 (i := 66) rfl rfl)
set_option maxRecDepth 20000 in
theorem lX12_411 : LK RX12 411 m_X12_allOver := (inC9 (i := 73) rfl rfl)
set_option maxRecDepth 20000 in
theorem lX12_414 : LK RX12 414 m_X12_overWith := (inC9 (i := 85) rfl rfl)
set_option maxRecDepth 20000 in
theorem lX12_417 : LK RX12 417 m_X12_beforeOf := (inC9 (i := 105) rfl rfl)
set_option maxRecDepth 20000 in
theorem lX12_420 : LK RX12 420 m_X12_ringOnes := (inC9 (i := 101) rfl rfl)
set_option maxRecDepth 20000 in
theorem lX12_423 : LK RX12 423 m_X12_chainOf := (inC9 (i := 129) rfl rfl)
set_option maxRecDepth 20000 in
theorem lX12_426 : LK RX12 426 m_X12_soonOf := (inC9 (i := 125) rfl rfl)
set_option maxRecDepth 20000 in
theorem lX12_429 : LK RX12 429 m_X12_olderOnes := (inC9 (i := 141) rfl rfl)
set_option maxRecDepth 20000 in
theorem lX12_432 : LK RX12 432 m_X12_leanWithin := (inC9 (i := 157) rfl rfl)
set_option maxRecDepth 20000 in
theorem lX12_435 : LK RX12 435 m_X12_toDo := (inC9 (i := 153) rfl rfl)
set_option maxRecDepth 20000 in
theorem lX12_438 : LK RX12 438 m_X12_isTold := (inC9 (i := 165) rfl rfl)
set_option maxRecDepth 20000 in
theorem lX12_441 : LK RX12 441 m_X12_allThatFit := (inC9 (i := 169) rfl rfl)
set_option maxRecDepth 20000 in
theorem lX12_444 : LK RX12 444 m_X12_isGap := (inC9 (i := 181) rfl rfl)
set_option maxRecDepth 20000 in
theorem lX12_447 : LK RX12 447 m_X12_serves := (inC9 (i := 197) rfl rfl)
set_option maxRecDepth 20000 in
theorem lX12_451 : LK RX12 451 m_X12_hasBy := (inC9 (i := 205) rfl rfl)
set_option maxRecDepth 20000 in
theorem lX12_458 : LK RX12 458 m_X12_oddsOf := (inC9 (i := 229) rfl rfl)
set_option maxRecDepth 20000 in
theorem lX12_461 : LK RX12 461 m_X12_ofLog := (inC10 (i := 11) rfl rfl)
set_option maxRecDepth 20000 in
theorem lX12_464 : LK RX12 464 m_X12_readyOnes := (inC10 (i := 27) rfl rfl)
set_option maxRecDepth 20000 in
theorem lJ0_335 : LK RJ0 335 m_J0_coder_7d493 := (inC4 (i := 10) rfl rfl)
set_option maxRecDepth 20000 in
theorem lJ0_492 : LK RJ0 492 m_J0_isLatin1_aae02 := (inC4 (i := 20) rfl rfl)
set_option maxRecDepth 20000 in
theorem lJ0_495 : LK RJ0 495 m_J1_charAt_3b067 := (inC4 (i := 24) rfl rfl)
set_option maxRecDepth 20000 in
theorem lJ0_498 : LK RJ0 498 m_J2_charAt_3b067 := (inC4 (i := 35) rfl rfl)
set_option maxRecDepth 20000 in
theorem lJ0_1059 : LK RJ0 1059 m_J3_checkIndex_8e157 := (inC4 (i := 32) rfl rfl)
set_option maxRecDepth 20000 in
theorem lJ1_9 : LK RJ1 9 m_J0_checkIndex_df160 := (inC4 (i := 27) rfl rfl)
set_option maxRecDepth 20000 in
theorem lJ2_48 : LK RJ2 48 m_J2_length_9d52b := (inC4 (i := 41) rfl rfl)
set_option maxRecDepth 20000 in
theorem lJ2_67 : LK RJ2 67 m_J2_checkIndex_2214a := (inC4 (i := 38) rfl rfl)
set_option maxRecDepth 20000 in
theorem lJ2_71 : LK RJ2 71 m_J2_getChar_3b067 := (inC4 (i := 45) rfl rfl)
set_option maxRecDepth 20000 in
theorem lJ2_414 : LK RJ2 414 m_J0_checkIndex_df160 := (inC4 (i := 44) rfl rfl)




theorem lL_7 : LK RL 7 m_X11_street := (inC3 (i := 205) rfl rfl)
theorem lL_17 : LK RL 17 m_X11_law := (inC5 (i := 73) rfl rfl)
theorem lL_20 : LK RL 20 m_X11_person := (inC5 (i := 89) rfl rfl)
theorem lL_28 : LK RL 28 m_X11_duty := (inC5 (i := 138) rfl rfl)
theorem lL_31 : LK RL 31 m_X11_call := (inC5 (i := 154) rfl rfl)
theorem lL_37 : LK RL 37 m_X11_put := (inC5 (i := 181) rfl rfl)
theorem lL_40 : LK RL 40 m_X11_forget := (inC5 (i := 193) rfl rfl)
theorem lL_43 : LK RL 43 m_X11_recall := (inC5 (i := 200) rfl rfl)
theorem lL_46 : LK RL 46 m_X11_hand := (inC5 (i := 207) rfl rfl)
theorem lL_49 : LK RL 49 m_X11_lean := (inC5 (i := 217) rfl rfl)
theorem lL_52 : LK RL 52 m_X11_free := (inC5 (i := 224) rfl rfl)
theorem lL_55 : LK RL 55 m_X11_days := (inC5 (i := 234) rfl rfl)
theorem lL_58 : LK RL 58 m_X11_greets := (inC6 (i := 13) rfl rfl)
theorem lL_61 : LK RL 61 m_X11_where := (inC6 (i := 23) rfl rfl)
theorem lL_64 : LK RL 64 m_X11_crowd := (inC6 (i := 34) rfl rfl)
theorem lL_68 : LK RL 68 m_X11_does := (inC6 (i := 41) rfl rfl)
theorem lL_72 : LK RL 72 m_X11_soon := (inC6 (i := 59) rfl rfl)
theorem lL_75 : LK RL 75 m_X11_before := (inC6 (i := 66) rfl rfl)
theorem lL_78 : LK RL 78 m_X11_after := (inC6 (i := 74) rfl rfl)
theorem lL_81 : LK RL 81 m_X11_depth := (inC6 (i := 84) rfl rfl)
theorem lL_84 : LK RL 84 m_X11_young := (inC6 (i := 91) rfl rfl)
theorem lL_87 : LK RL 87 m_X11_older := (inC6 (i := 102) rfl rfl)
theorem lL_90 : LK RL 90 m_X11_whose := (inC6 (i := 109) rfl rfl)
theorem lL_93 : LK RL 93 m_X11_ask := (inC6 (i := 129) rfl rfl)
theorem lL_96 : LK RL 96 m_X11_swap := (inC6 (i := 140) rfl rfl)
theorem lL_99 : LK RL 99 m_X11_rests := (inC6 (i := 156) rfl rfl)
theorem lL_102 : LK RL 102 m_X11_odds := (inC6 (i := 172) rfl rfl)
theorem lL_105 : LK RL 105 m_X11_spare := (inC6 (i := 186) rfl rfl)
theorem lL_108 : LK RL 108 m_X11_done := (inC6 (i := 197) rfl rfl)
theorem lL_111 : LK RL 111 m_X11_sick := (inC6 (i := 208) rfl rfl)
theorem lL_114 : LK RL 114 m_X11_ahead := (inC6 (i := 215) rfl rfl)
theorem lL_117 : LK RL 117 m_X11_trial := (inC6 (i := 222) rfl rfl)
theorem lL_120 : LK RL 120 m_X11_span := (inC6 (i := 233) rfl rfl)
theorem lL_123 : LK RL 123 m_X11_led := (inC7 (i := 0) rfl rfl)
theorem lL_126 : LK RL 126 m_X11_log := (inC7 (i := 20) rfl rfl)
theorem lL_129 : LK RL 129 m_X11_init := (inC1 (i := 32) rfl rfl)
theorem lL_132 : LK RL 132 m_X12_init := (inC7 (i := 31) rfl rfl)
theorem lL_133 : LK RL 133 m_X11_feed := (inC2 (i := 120) rfl rfl)
theorem lL_137 : LK RL 137 m_X12_feed := (inC7 (i := 109) rfl rfl)
theorem lL_138 : LK RL 138 m_X11_end := (inC2 (i := 128) rfl rfl)
theorem lL_142 : LK RL 142 m_X12_end := (inC7 (i := 113) rfl rfl)
theorem lL_143 : LK RL 143 m_L_street := (inC3 (i := 200) rfl rfl)
theorem lL_148 : LK RL 148 m_X12_street := (inC7 (i := 121) rfl rfl)
theorem lL_149 : LK RL 149 m_L_law := (inC5 (i := 70) rfl rfl)
theorem lL_151 : LK RL 151 m_X12_law := (inC8 (i := 40) rfl rfl)
theorem lL_152 : LK RL 152 m_X11_fault := (inC2 (i := 132) rfl rfl)
theorem lL_155 : LK RL 155 m_X12_fault := (inC7 (i := 117) rfl rfl)
theorem lL_156 : LK RL 156 m_L_person := (inC5 (i := 84) rfl rfl)
theorem lL_159 : LK RL 159 m_X12_person := (inC8 (i := 129) rfl rfl)
theorem lL_160 : LK RL 160 m_L_duty := (inC5 (i := 135) rfl rfl)
theorem lL_162 : LK RL 162 m_X12_duty := (inC8 (i := 193) rfl rfl)
theorem lL_163 : LK RL 163 m_L_call := (inC5 (i := 150) rfl rfl)
theorem lL_166 : LK RL 166 m_X12_call := (inC8 (i := 201) rfl rfl)
theorem lL_167 : LK RL 167 m_L_put := (inC5 (i := 178) rfl rfl)
theorem lL_169 : LK RL 169 m_X12_put := (inC8 (i := 217) rfl rfl)
theorem lL_170 : LK RL 170 m_L_forget := (inC5 (i := 190) rfl rfl)
theorem lL_172 : LK RL 172 m_X12_forget := (inC8 (i := 221) rfl rfl)
theorem lL_173 : LK RL 173 m_L_recall := (inC5 (i := 197) rfl rfl)
theorem lL_175 : LK RL 175 m_X12_recall := (inC8 (i := 225) rfl rfl)
theorem lL_176 : LK RL 176 m_L_hand := (inC5 (i := 204) rfl rfl)
theorem lL_178 : LK RL 178 m_X12_hand := (inC8 (i := 233) rfl rfl)
theorem lL_179 : LK RL 179 m_L_lean := (inC5 (i := 214) rfl rfl)
theorem lL_181 : LK RL 181 m_X12_lean := (inC8 (i := 237) rfl rfl)
theorem lL_182 : LK RL 182 m_L_free := (inC5 (i := 221) rfl rfl)
theorem lL_184 : LK RL 184 m_X12_free := (inC9 (i := 1) rfl rfl)
theorem lL_185 : LK RL 185 m_L_days := (inC5 (i := 231) rfl rfl)
theorem lL_187 : LK RL 187 m_X12_days := (inC9 (i := 5) rfl rfl)
theorem lL_188 : LK RL 188 m_X11_parade := (inC2 (i := 209) rfl rfl)
theorem lL_191 : LK RL 191 m_X12_parade := (inC8 (i := 44) rfl rfl)
theorem lL_192 : LK RL 192 m_X11_can := (inC2 (i := 221) rfl rfl)
theorem lL_195 : LK RL 195 m_X12_can := (inC8 (i := 56) rfl rfl)
theorem lL_196 : LK RL 196 m_L_greets := (inC6 (i := 10) rfl rfl)
theorem lL_198 : LK RL 198 m_X12_greets := (inC8 (i := 84) rfl rfl)
theorem lL_199 : LK RL 199 m_L_where := (inC6 (i := 20) rfl rfl)
theorem lL_201 : LK RL 201 m_X12_where := (inC8 (i := 98) rfl rfl)
theorem lL_202 : LK RL 202 m_L_crowd := (inC6 (i := 31) rfl rfl)
theorem lL_205 : LK RL 205 m_X12_crowd := (inC8 (i := 110) rfl rfl)
theorem lL_206 : LK RL 206 m_X11_most := (inC3 (i := 4) rfl rfl)
theorem lL_209 : LK RL 209 m_X12_most := (inC8 (i := 114) rfl rfl)
theorem lL_210 : LK RL 210 m_L_does := (inC6 (i := 38) rfl rfl)
theorem lL_213 : LK RL 213 m_X12_does := (inC9 (i := 149) rfl rfl)
theorem lL_214 : LK RL 214 m_L_soon := (inC6 (i := 56) rfl rfl)
theorem lL_216 : LK RL 216 m_X12_soon := (inC9 (i := 121) rfl rfl)
theorem lL_217 : LK RL 217 m_X11_longest := (inC3 (i := 23) rfl rfl)
theorem lL_220 : LK RL 220 m_X12_longest := (inC9 (i := 133) rfl rfl)
theorem lL_221 : LK RL 221 m_X11_ring := (inC3 (i := 48) rfl rfl)
theorem lL_224 : LK RL 224 m_X12_ring := (inC9 (i := 97) rfl rfl)
theorem lL_225 : LK RL 225 m_L_before := (inC6 (i := 63) rfl rfl)
theorem lL_227 : LK RL 227 m_X12_before := (inC9 (i := 109) rfl rfl)
theorem lL_228 : LK RL 228 m_L_after := (inC6 (i := 71) rfl rfl)
theorem lL_230 : LK RL 230 m_X12_after := (inC9 (i := 113) rfl rfl)
theorem lL_231 : LK RL 231 m_L_depth := (inC6 (i := 81) rfl rfl)
theorem lL_233 : LK RL 233 m_X12_depth := (inC9 (i := 117) rfl rfl)
theorem lL_234 : LK RL 234 m_L_young := (inC6 (i := 88) rfl rfl)
theorem lL_236 : LK RL 236 m_X12_young := (inC9 (i := 137) rfl rfl)
theorem lL_237 : LK RL 237 m_L_older := (inC6 (i := 99) rfl rfl)
theorem lL_239 : LK RL 239 m_X12_older := (inC9 (i := 145) rfl rfl)
theorem lL_240 : LK RL 240 m_L_whose := (inC6 (i := 106) rfl rfl)
theorem lL_242 : LK RL 242 m_X12_whose := (inC9 (i := 161) rfl rfl)
theorem lL_243 : LK RL 243 m_L_ask := (inC6 (i := 126) rfl rfl)
theorem lL_245 : LK RL 245 m_X12_ask := (inC9 (i := 173) rfl rfl)
theorem lL_246 : LK RL 246 m_X12_thrown := (inC7 (i := 25) rfl rfl)
theorem lL_249 : LK RL 249 m_X11_gap := (inC3 (i := 53) rfl rfl)
theorem lL_252 : LK RL 252 m_X12_gap := (inC9 (i := 177) rfl rfl)
theorem lL_253 : LK RL 253 m_X11_lost := (inC3 (i := 64) rfl rfl)
theorem lL_256 : LK RL 256 m_X12_lost := (inC9 (i := 185) rfl rfl)
theorem lL_257 : LK RL 257 m_X11_missed := (inC3 (i := 68) rfl rfl)
theorem lL_260 : LK RL 260 m_X12_missed := (inC9 (i := 189) rfl rfl)
theorem lL_261 : LK RL 261 m_L_swap := (inC6 (i := 137) rfl rfl)
theorem lL_263 : LK RL 263 m_X12_swap := (inC9 (i := 193) rfl rfl)
theorem lL_264 : LK RL 264 m_L_rests := (inC6 (i := 153) rfl rfl)
theorem lL_266 : LK RL 266 m_X12_rests := (inC9 (i := 201) rfl rfl)
theorem lL_267 : LK RL 267 m_X11_sponsor := (inC3 (i := 72) rfl rfl)
theorem lL_270 : LK RL 270 m_X12_sponsor := (inC9 (i := 209) rfl rfl)
theorem lL_271 : LK RL 271 m_X11_idle := (inC3 (i := 76) rfl rfl)
theorem lL_274 : LK RL 274 m_X12_idle := (inC9 (i := 213) rfl rfl)
theorem lL_275 : LK RL 275 m_X11_worst := (inC3 (i := 89) rfl rfl)
theorem lL_278 : LK RL 278 m_X12_worst := (inC9 (i := 217) rfl rfl)
theorem lL_279 : LK RL 279 m_L_odds := (inC6 (i := 169) rfl rfl)
theorem lL_281 : LK RL 281 m_X12_odds := (inC9 (i := 225) rfl rfl)
theorem lL_282 : LK RL 282 m_L_spare := (inC6 (i := 183) rfl rfl)
theorem lL_284 : LK RL 284 m_X12_spare := (inC9 (i := 235) rfl rfl)
theorem lL_285 : LK RL 285 m_L_done := (inC6 (i := 194) rfl rfl)
theorem lL_287 : LK RL 287 m_X12_done := (inC9 (i := 57) rfl rfl)
theorem lL_288 : LK RL 288 m_X11_all := (inC3 (i := 102) rfl rfl)
theorem lL_291 : LK RL 291 m_X12_all := (inC9 (i := 69) rfl rfl)
theorem lL_292 : LK RL 292 m_X11_help := (inC3 (i := 155) rfl rfl)
theorem lL_295 : LK RL 295 m_X12_help := (inC9 (i := 81) rfl rfl)
theorem lL_296 : LK RL 296 m_X11_crux := (inC3 (i := 160) rfl rfl)
theorem lL_299 : LK RL 299 m_X12_crux := (inC9 (i := 89) rfl rfl)
theorem lL_300 : LK RL 300 m_L_sick := (inC6 (i := 205) rfl rfl)
theorem lL_302 : LK RL 302 m_X12_sick := (inC9 (i := 93) rfl rfl)
theorem lL_303 : LK RL 303 m_X11_alike := (inC3 (i := 94) rfl rfl)
theorem lL_306 : LK RL 306 m_X12_alike := (inC9 (i := 221) rfl rfl)
theorem lL_307 : LK RL 307 m_L_ahead := (inC6 (i := 212) rfl rfl)
theorem lL_309 : LK RL 309 m_X12_ahead := (inC9 (i := 42) rfl rfl)
theorem lL_310 : LK RL 310 m_L_trial := (inC6 (i := 219) rfl rfl)
theorem lL_312 : LK RL 312 m_X12_trial := (inC9 (i := 239) rfl rfl)
theorem lL_313 : LK RL 313 m_L_span := (inC6 (i := 230) rfl rfl)
theorem lL_315 : LK RL 315 m_X12_span := (inC10 (i := 3) rfl rfl)
theorem lL_316 : LK RL 316 m_L_led := (inC6 (i := 237) rfl rfl)
theorem lL_318 : LK RL 318 m_X12_led := (inC10 (i := 7) rfl rfl)
theorem lL_319 : LK RL 319 m_L_log := (inC7 (i := 17) rfl rfl)
theorem lL_321 : LK RL 321 m_X12_log := (inC10 (i := 15) rfl rfl)
theorem lL_322 : LK RL 322 m_X11_seed := (inC3 (i := 165) rfl rfl)
theorem lL_325 : LK RL 325 m_X12_seed := (inC10 (i := 19) rfl rfl)
theorem lL_326 : LK RL 326 m_X11_undo := (inC3 (i := 169) rfl rfl)
theorem lL_330 : LK RL 330 m_X12_undo := (inC7 (i := 105) rfl rfl)
theorem lL_331 : LK RL 331 m_X11_image := (inC3 (i := 187) rfl rfl)
theorem lL_334 : LK RL 334 m_X12_image := (inC7 (i := 97) rfl rfl)
theorem lL_335 : LK RL 335 m_X11_back := (inC3 (i := 196) rfl rfl)
theorem lL_338 : LK RL 338 m_X12_back := (inC7 (i := 101) rfl rfl)
theorem lL_339 : LK RL 339 m_X11_count := (inC2 (i := 136) rfl rfl)
theorem lL_342 : LK RL 342 m_X12_count := (inC10 (i := 23) rfl rfl)
end
section
/-! ===== the rules of AW: stack and numbers ===== -/
section A4
variable {S : aS} {C : aM} {d : Nat} {Q : Option Value → aH → Prop} {X : String → aH → Prop} {k1 k2 pc np tgt : Nat} {w : Int32} {ls ls' : List (Option Value)} {st st' : List Value} {h : aH} {ins : Instr}
theorem okd {C : aM} {pc np tgt : Nat} {w : Int32} {ins : Instr} (hO : OkM C) (hC : look C pc = some (ins, np, tgt, w)) {n : Nat} (hn : ilen ins = n + 1) : decode C.2.1 pc = .ok (ins, n + 1) ∧ np = pc + (n + 1) ∧ okX pc (ins, np, tgt, w) = true := by
  obtain ⟨h1, -, h3⟩ := hO _ _ hC
  rcases h1 with h1 | ⟨h1, h2⟩
  · exact absurd h1 (by simp only; omega)
  · simp only [hn] at h1 h2
    exact ⟨h1, h2, h3⟩
/-- what an instruction does to the stack alone -/
def sst (ins : Instr) (w : Int32) (st : List Value) : Option (List Value) := match ins, st with
  | .iconst _, st => some (.int w :: st)
  | .bipush _, st => some (.int w :: st)
  | .sipush _, st => some (.int w :: st)
  | .lconst 0, st => some (.long 0 :: st)
  | .lconst 1, st => some (.long 1 :: st)
  | .aconst_null, st => some (.null :: st)
  | .iadd, .int y :: .int x :: r => some (.int (x + y) :: r)
  | .isub, .int y :: .int x :: r => some (.int (x - y) :: r)
  | .imul, .int y :: .int x :: r => some (.int (x * y) :: r)
  | .iand, .int y :: .int x :: r => some (.int (x &&& y) :: r)
  | .ior, .int y :: .int x :: r => some (.int (x ||| y) :: r)
  | .ixor, .int y :: .int x :: r => some (.int (x ^^^ y) :: r)
  | .ineg, .int x :: r => some (.int (-x) :: r)
  | .ishl, .int y :: .int x :: r => some (.int (x <<< (y &&& 31)) :: r)
  | .ishr, .int y :: .int x :: r => some (.int (x >>> (y &&& 31)) :: r)
  | .iushr, .int y :: .int x :: r => some (.int (x.toUInt32 >>> (y.toUInt32 &&& Int32.toUInt32 31)).toInt32 :: r)
  | .ladd, .long y :: .long x :: r => some (.long (x + y) :: r)
  | .lsub, .long y :: .long x :: r => some (.long (x - y) :: r)
  | .lmul, .long y :: .long x :: r => some (.long (x * y) :: r)
  | .lcmp, .long y :: .long x :: r => some (.int (lg_cmp x y) :: r)
  | .i2l, .int x :: r => some (.long x.toInt64 :: r)
  | .l2i, .long x :: r => some (.int x.toInt32 :: r)
  | .i2b, .int x :: r => some (.int x.toInt8.toInt32 :: r)
  | .dup, .int x :: r => some (.int x :: .int x :: r)
  | .dup, .ref x :: r => some (.ref x :: .ref x :: r)
  | .dup, .null :: r => some (.null :: .null :: r)
  | .pop, .int _ :: r => some r
  | .pop, .ref _ :: r => some r
  | .pop, .null :: r => some r
  | .dup2, .int y :: .ref x :: r => some (.int y :: .ref x :: .int y :: .ref x :: r)
  | .dup2, .int y :: .int x :: r => some (.int y :: .int x :: .int y :: .int x :: r)
  | .dup2, .long x :: r => some (.long x :: .long x :: r)
  | _, _ => none
set_option maxHeartbeats 4000000 in
theorem a_s (hC : look C pc = some (ins, np, tgt, w)) (hs : sst ins w st = some st') (k : AW S C d Q X k1 k2 np ls st' h) : AW S C d Q X k1 k2 pc ls st h := by
  intro p l e s m args below meth c H la locs cells slots mc ms G CC hS hL hR hF h1 h2
  have K := k p l e s m args below meth c H la locs cells slots mc ms G CC hS hL hR hF h1 h2
  have hx := CC.1
  have hb := CC.2.1
  have hO := CC.2.2.2.2.2.2.2.2.2
  clear CC
  unfold sst at hs
  split at hs <;> first | (cases hs; done) | (cases hs; obtain ⟨hd, rfl, ho⟩ := okd hO hC rfl)

  · exact lv_iconst hx hb hd (of_decide_eq_true ho) K
  · exact lv_bipush hx hb hd (of_decide_eq_true ho) K
  · exact lv_sipush hx hb hd (of_decide_eq_true ho) K
  · exact lv_lconst (v := 0) hx hb hd rfl K
  · exact lv_lconst (v := 1) hx hb hd rfl K
  · exact lv_null hx hb hd K
  · exact lv_iadd hx hb hd K
  · exact lv_isub hx hb hd K
  · exact lv_imul hx hb hd K
  · exact lv_iand hx hb hd K
  · exact lv_ior hx hb hd K
  · exact lv_ixor hx hb hd K
  · exact lv_ineg hx hb hd K
  · exact lv_ishl hx hb hd K
  · exact lv_ishr hx hb hd K
  · exact lv_iushr hx hb hd rfl K
  · exact lv_ladd hx hb hd K
  · exact lv_lsub hx hb hd K
  · exact lv_lmul hx hb hd K
  · exact W.lcmp hx hb hd K
  · exact lv_i2l hx hb hd rfl K
  · exact lv_l2i hx hb hd rfl K
  · exact lv_i2b hx hb hd rfl K
  · exact lv_dup hx hb hd rfl K
  · exact lv_dup hx hb hd rfl K
  · exact lv_dup hx hb hd rfl K
  · exact lv_pop hx hb hd rfl K
  · exact lv_pop hx hb hd rfl K
  · exact lv_pop hx hb hd rfl K
  · exact lv_dup2_11 hx hb hd rfl rfl K
  · exact lv_dup2_11 hx hb hd rfl rfl K
  · exact lv_dup2_2 hx hb hd rfl K
theorem a_idiv {x y : Int32} {r : List Value} (hC : look C pc = some (.idiv, np, tgt, w)) (hy : ¬ y = 0) (k : AW S C d Q X k1 k2 np ls (.int (x / y) :: r) h) : AW S C d Q X k1 k2 pc ls (.int y :: .int x :: r) h := by
  intro p l e s m args below meth c H la locs cells slots mc ms G CC hS hL hR hF h1 h2
  have K := k p l e s m args below meth c H la locs cells slots mc ms G CC hS hL hR hF h1 h2
  obtain ⟨hd, rfl, -⟩ := okd CC.2.2.2.2.2.2.2.2.2 hC rfl
  exact lv_idiv CC.1 CC.2.1 hd hy K
theorem a_irem {x y : Int32} {r : List Value} (hC : look C pc = some (.irem, np, tgt, w)) (hy : ¬ y = 0) (k : AW S C d Q X k1 k2 np ls (.int (x - x / y * y) :: r) h) : AW S C d Q X k1 k2 pc ls (.int y :: .int x :: r) h := by
  intro p l e s m args below meth c H la locs cells slots mc ms G CC hS hL hR hF h1 h2
  have K := k p l e s m args below meth c H la locs cells slots mc ms G CC hS hL hR hF h1 h2
  obtain ⟨hd, rfl, -⟩ := okd CC.2.2.2.2.2.2.2.2.2 hC rfl
  exact lv_irem CC.1 CC.2.1 hd hy K
theorem a_ldiv {x y : Int64} {r : List Value} (hC : look C pc = some (.ldiv, np, tgt, w)) (hy : ¬ y = 0) (k : AW S C d Q X k1 k2 np ls (.long (x / y) :: r) h) : AW S C d Q X k1 k2 pc ls (.long y :: .long x :: r) h := by
  intro p l e s m args below meth c H la locs cells slots mc ms G CC hS hL hR hF h1 h2
  have K := k p l e s m args below meth c H la locs cells slots mc ms G CC hS hL hR hF h1 h2
  obtain ⟨hd, rfl, -⟩ := okd CC.2.2.2.2.2.2.2.2.2 hC rfl
  exact lv_ldiv CC.1 CC.2.1 hd hy K
theorem a_goto {off : Int} (hC : look C pc = some (.goto off, np, tgt, w)) (k : AW S C d Q X k1 k2 tgt ls st h) : AW S C d Q X k1 k2 pc ls st h := by
  intro p l e s m args below meth c H la locs cells slots mc ms G CC hS hL hR hF h1 h2
  have K := k p l e s m args below meth c H la locs cells slots mc ms G CC hS hL hR hF h1 h2
  obtain ⟨hd, -, ho⟩ := okd CC.2.2.2.2.2.2.2.2.2 hC rfl
  exact lv_goto CC.1 CC.2.1 hd (of_decide_eq_true ho) K
theorem a_if_eq {x : Int32} {off : Int} (hC : look C pc = some (.ifCond .eq off, np, tgt, w)) (kt : x = 0 → AW S C d Q X k1 k2 tgt ls st h) (kf : ¬ x = 0 → AW S C d Q X k1 k2 np ls st h) : AW S C d Q X k1 k2 pc ls (.int x :: st) h := by
  intro p l e s m args below meth c H la locs cells slots mc ms G CC hS hL hR hF h1 h2
  obtain ⟨hd, rfl, ho⟩ := okd CC.2.2.2.2.2.2.2.2.2 hC rfl
  exact lv_if_eq CC.1 CC.2.1 hd (of_decide_eq_true ho) (fun q => kt q p l e s m args below meth c H la locs cells slots mc ms G CC hS hL hR hF h1 h2) (fun q => kf q p l e s m args below meth c H la locs cells slots mc ms G CC hS hL hR hF h1 h2)
theorem a_if_ne {x : Int32} {off : Int} (hC : look C pc = some (.ifCond .ne off, np, tgt, w)) (kt : ¬ x = 0 → AW S C d Q X k1 k2 tgt ls st h) (kf : x = 0 → AW S C d Q X k1 k2 np ls st h) : AW S C d Q X k1 k2 pc ls (.int x :: st) h := by
  intro p l e s m args below meth c H la locs cells slots mc ms G CC hS hL hR hF h1 h2
  obtain ⟨hd, rfl, ho⟩ := okd CC.2.2.2.2.2.2.2.2.2 hC rfl
  exact lv_if_ne CC.1 CC.2.1 hd (of_decide_eq_true ho) (fun q => kt q p l e s m args below meth c H la locs cells slots mc ms G CC hS hL hR hF h1 h2) (fun q => kf q p l e s m args below meth c H la locs cells slots mc ms G CC hS hL hR hF h1 h2)
theorem a_if_lt {x : Int32} {off : Int} (hC : look C pc = some (.ifCond .lt off, np, tgt, w)) (kt : x < 0 → AW S C d Q X k1 k2 tgt ls st h) (kf : ¬ x < 0 → AW S C d Q X k1 k2 np ls st h) : AW S C d Q X k1 k2 pc ls (.int x :: st) h := by
  intro p l e s m args below meth c H la locs cells slots mc ms G CC hS hL hR hF h1 h2
  obtain ⟨hd, rfl, ho⟩ := okd CC.2.2.2.2.2.2.2.2.2 hC rfl
  exact lv_if_lt CC.1 CC.2.1 hd (of_decide_eq_true ho) (fun q => kt q p l e s m args below meth c H la locs cells slots mc ms G CC hS hL hR hF h1 h2) (fun q => kf q p l e s m args below meth c H la locs cells slots mc ms G CC hS hL hR hF h1 h2)
theorem a_if_ge {x : Int32} {off : Int} (hC : look C pc = some (.ifCond .ge off, np, tgt, w)) (kt : 0 ≤ x → AW S C d Q X k1 k2 tgt ls st h) (kf : ¬ 0 ≤ x → AW S C d Q X k1 k2 np ls st h) : AW S C d Q X k1 k2 pc ls (.int x :: st) h := by
  intro p l e s m args below meth c H la locs cells slots mc ms G CC hS hL hR hF h1 h2
  obtain ⟨hd, rfl, ho⟩ := okd CC.2.2.2.2.2.2.2.2.2 hC rfl
  exact lv_if_ge CC.1 CC.2.1 hd (of_decide_eq_true ho) (fun q => kt q p l e s m args below meth c H la locs cells slots mc ms G CC hS hL hR hF h1 h2) (fun q => kf q p l e s m args below meth c H la locs cells slots mc ms G CC hS hL hR hF h1 h2)
theorem a_if_gt {x : Int32} {off : Int} (hC : look C pc = some (.ifCond .gt off, np, tgt, w)) (kt : 0 < x → AW S C d Q X k1 k2 tgt ls st h) (kf : ¬ 0 < x → AW S C d Q X k1 k2 np ls st h) : AW S C d Q X k1 k2 pc ls (.int x :: st) h := by
  intro p l e s m args below meth c H la locs cells slots mc ms G CC hS hL hR hF h1 h2
  obtain ⟨hd, rfl, ho⟩ := okd CC.2.2.2.2.2.2.2.2.2 hC rfl
  exact lv_if_gt CC.1 CC.2.1 hd (of_decide_eq_true ho) (fun q => kt q p l e s m args below meth c H la locs cells slots mc ms G CC hS hL hR hF h1 h2) (fun q => kf q p l e s m args below meth c H la locs cells slots mc ms G CC hS hL hR hF h1 h2)
theorem a_if_le {x : Int32} {off : Int} (hC : look C pc = some (.ifCond .le off, np, tgt, w)) (kt : x ≤ 0 → AW S C d Q X k1 k2 tgt ls st h) (kf : ¬ x ≤ 0 → AW S C d Q X k1 k2 np ls st h) : AW S C d Q X k1 k2 pc ls (.int x :: st) h := by
  intro p l e s m args below meth c H la locs cells slots mc ms G CC hS hL hR hF h1 h2
  obtain ⟨hd, rfl, ho⟩ := okd CC.2.2.2.2.2.2.2.2.2 hC rfl
  exact lv_if_le CC.1 CC.2.1 hd (of_decide_eq_true ho) (fun q => kt q p l e s m args below meth c H la locs cells slots mc ms G CC hS hL hR hF h1 h2) (fun q => kf q p l e s m args below meth c H la locs cells slots mc ms G CC hS hL hR hF h1 h2)
theorem a_ic_eq {x y : Int32} {off : Int} (hC : look C pc = some (.if_icmp .eq off, np, tgt, w)) (kt : x = y → AW S C d Q X k1 k2 tgt ls st h) (kf : ¬ x = y → AW S C d Q X k1 k2 np ls st h) : AW S C d Q X k1 k2 pc ls (.int y :: .int x :: st) h := by
  intro p l e s m args below meth c H la locs cells slots mc ms G CC hS hL hR hF h1 h2
  obtain ⟨hd, rfl, ho⟩ := okd CC.2.2.2.2.2.2.2.2.2 hC rfl
  exact lv_icmp_eq CC.1 CC.2.1 hd (of_decide_eq_true ho) (fun q => kt q p l e s m args below meth c H la locs cells slots mc ms G CC hS hL hR hF h1 h2) (fun q => kf q p l e s m args below meth c H la locs cells slots mc ms G CC hS hL hR hF h1 h2)
theorem a_ic_ne {x y : Int32} {off : Int} (hC : look C pc = some (.if_icmp .ne off, np, tgt, w)) (kt : ¬ x = y → AW S C d Q X k1 k2 tgt ls st h) (kf : x = y → AW S C d Q X k1 k2 np ls st h) : AW S C d Q X k1 k2 pc ls (.int y :: .int x :: st) h := by
  intro p l e s m args below meth c H la locs cells slots mc ms G CC hS hL hR hF h1 h2
  obtain ⟨hd, rfl, ho⟩ := okd CC.2.2.2.2.2.2.2.2.2 hC rfl
  exact lv_icmp_ne CC.1 CC.2.1 hd (of_decide_eq_true ho) (fun q => kt q p l e s m args below meth c H la locs cells slots mc ms G CC hS hL hR hF h1 h2) (fun q => kf q p l e s m args below meth c H la locs cells slots mc ms G CC hS hL hR hF h1 h2)
theorem a_ic_lt {x y : Int32} {off : Int} (hC : look C pc = some (.if_icmp .lt off, np, tgt, w)) (kt : x < y → AW S C d Q X k1 k2 tgt ls st h) (kf : ¬ x < y → AW S C d Q X k1 k2 np ls st h) : AW S C d Q X k1 k2 pc ls (.int y :: .int x :: st) h := by
  intro p l e s m args below meth c H la locs cells slots mc ms G CC hS hL hR hF h1 h2
  obtain ⟨hd, rfl, ho⟩ := okd CC.2.2.2.2.2.2.2.2.2 hC rfl
  exact lv_icmp_lt CC.1 CC.2.1 hd (of_decide_eq_true ho) (fun q => kt q p l e s m args below meth c H la locs cells slots mc ms G CC hS hL hR hF h1 h2) (fun q => kf q p l e s m args below meth c H la locs cells slots mc ms G CC hS hL hR hF h1 h2)
theorem a_ic_ge {x y : Int32} {off : Int} (hC : look C pc = some (.if_icmp .ge off, np, tgt, w)) (kt : y ≤ x → AW S C d Q X k1 k2 tgt ls st h) (kf : ¬ y ≤ x → AW S C d Q X k1 k2 np ls st h) : AW S C d Q X k1 k2 pc ls (.int y :: .int x :: st) h := by
  intro p l e s m args below meth c H la locs cells slots mc ms G CC hS hL hR hF h1 h2
  obtain ⟨hd, rfl, ho⟩ := okd CC.2.2.2.2.2.2.2.2.2 hC rfl
  exact lv_icmp_ge CC.1 CC.2.1 hd (of_decide_eq_true ho) (fun q => kt q p l e s m args below meth c H la locs cells slots mc ms G CC hS hL hR hF h1 h2) (fun q => kf q p l e s m args below meth c H la locs cells slots mc ms G CC hS hL hR hF h1 h2)
theorem a_ic_gt {x y : Int32} {off : Int} (hC : look C pc = some (.if_icmp .gt off, np, tgt, w)) (kt : y < x → AW S C d Q X k1 k2 tgt ls st h) (kf : ¬ y < x → AW S C d Q X k1 k2 np ls st h) : AW S C d Q X k1 k2 pc ls (.int y :: .int x :: st) h := by
  intro p l e s m args below meth c H la locs cells slots mc ms G CC hS hL hR hF h1 h2
  obtain ⟨hd, rfl, ho⟩ := okd CC.2.2.2.2.2.2.2.2.2 hC rfl
  exact lv_icmp_gt CC.1 CC.2.1 hd (of_decide_eq_true ho) (fun q => kt q p l e s m args below meth c H la locs cells slots mc ms G CC hS hL hR hF h1 h2) (fun q => kf q p l e s m args below meth c H la locs cells slots mc ms G CC hS hL hR hF h1 h2)
theorem a_ic_le {x y : Int32} {off : Int} (hC : look C pc = some (.if_icmp .le off, np, tgt, w)) (kt : x ≤ y → AW S C d Q X k1 k2 tgt ls st h) (kf : ¬ x ≤ y → AW S C d Q X k1 k2 np ls st h) : AW S C d Q X k1 k2 pc ls (.int y :: .int x :: st) h := by
  intro p l e s m args below meth c H la locs cells slots mc ms G CC hS hL hR hF h1 h2
  obtain ⟨hd, rfl, ho⟩ := okd CC.2.2.2.2.2.2.2.2.2 hC rfl
  exact lv_icmp_le CC.1 CC.2.1 hd (of_decide_eq_true ho) (fun q => kt q p l e s m args below meth c H la locs cells slots mc ms G CC hS hL hR hF h1 h2) (fun q => kf q p l e s m args below meth c H la locs cells slots mc ms G CC hS hL hR hF h1 h2)
theorem a_ifnull_t {off : Int} (hC : look C pc = some (.ifnull off, np, tgt, w)) (k : AW S C d Q X k1 k2 tgt ls st h) : AW S C d Q X k1 k2 pc ls (.null :: st) h := by
  intro p l e s m args below meth c H la locs cells slots mc ms G CC hS hL hR hF h1 h2
  obtain ⟨hd, rfl, ho⟩ := okd CC.2.2.2.2.2.2.2.2.2 hC rfl
  exact lv_ifnullN CC.1 CC.2.1 hd (of_decide_eq_true ho) (k p l e s m args below meth c H la locs cells slots mc ms G CC hS hL hR hF h1 h2)
theorem a_ifnull_f {off : Int} {x : Nat} (hC : look C pc = some (.ifnull off, np, tgt, w)) (k : AW S C d Q X k1 k2 np ls st h) : AW S C d Q X k1 k2 pc ls (.ref x :: st) h := by
  intro p l e s m args below meth c H la locs cells slots mc ms G CC hS hL hR hF h1 h2
  obtain ⟨hd, rfl, ho⟩ := okd CC.2.2.2.2.2.2.2.2.2 hC rfl
  exact lv_ifnull CC.1 CC.2.1 hd (k p l e s m args below meth c H la locs cells slots mc ms G CC hS hL hR hF h1 h2)
theorem a_ifnonnull_f {off : Int} (hC : look C pc = some (.ifnonnull off, np, tgt, w)) (k : AW S C d Q X k1 k2 np ls st h) : AW S C d Q X k1 k2 pc ls (.null :: st) h := by
  intro p l e s m args below meth c H la locs cells slots mc ms G CC hS hL hR hF h1 h2
  obtain ⟨hd, rfl, ho⟩ := okd CC.2.2.2.2.2.2.2.2.2 hC rfl
  exact lv_ifnonnullN CC.1 CC.2.1 hd (k p l e s m args below meth c H la locs cells slots mc ms G CC hS hL hR hF h1 h2)
theorem a_ifnonnull_t {off : Int} {x : Nat} (hC : look C pc = some (.ifnonnull off, np, tgt, w)) (k : AW S C d Q X k1 k2 tgt ls st h) : AW S C d Q X k1 k2 pc ls (.ref x :: st) h := by
  intro p l e s m args below meth c H la locs cells slots mc ms G CC hS hL hR hF h1 h2
  obtain ⟨hd, rfl, ho⟩ := okd CC.2.2.2.2.2.2.2.2.2 hC rfl
  exact lv_ifnonnull CC.1 CC.2.1 hd (of_decide_eq_true ho) (k p l e s m args below meth c H la locs cells slots mc ms G CC hS hL hR hF h1 h2)
/-- 'a.word != Word.X': words are constants, apart or null; rx, ry as reference numbers -/
theorem a_acmp_ne {rx ry : Nat} {off : Int} (hC : look C pc = some (.if_acmp .ne off, np, tgt, w)) (hx : rx = 0 ∨ ∃ E, (rx - 1, E) ∈ S.2.1) (hy : ry = 0 ∨ ∃ E, (ry - 1, E) ∈ S.2.1) (kt : ¬ rx = ry → AW S C d Q X k1 k2 tgt ls st h) (kf : rx = ry → AW S C d Q X k1 k2 np ls st h) : AW S C d Q X k1 k2 pc ls (rv ry :: rv rx :: st) h := by
  intro p l e s m args below meth c H la locs cells slots mc ms G CC hS hL hR hF h1 h2
  obtain ⟨hd, rfl, ho⟩ := okd CC.2.2.2.2.2.2.2.2.2 hC rfl
  have inj := hS.2.2.2.2.2.2.1
  simp only [List.map_cons, mv_rf]
  have key : rfo G rx = rfo G ry ↔ rx = ry := by
    constructor
    · intro he
      rcases rx with _ | a <;> rcases ry with _ | b
      · rfl
      · cases he
      · cases he
      · rcases hx with hx | ⟨E, hx⟩
        · cases hx
        · rcases hy with hy | ⟨E', hy⟩
          · cases hy
          · exact congrArg (· + 1) (inj (a, E) (b, E') hx hy (Option.some.inj he))
    · intro he
      rw [he]
  exact lv_acmp_ne CC.1 CC.2.1 hd (of_decide_eq_true ho) (fun q => kt (fun z => q (key.mpr z)) p l e s m args below meth c H la locs cells slots mc ms G CC hS hL hR hF h1 h2) (fun q => kf (key.mp q) p l e s m args below meth c H la locs cells slots mc ms G CC hS hL hR hF h1 h2)
end A4
end
section
/-! ===== the rules of AW: locals ===== -/
def kill : Option Value → Option Value
  | some (.long _) => none
  | some (.double _) => none
  | o => o
def lset : List (Option Value) → Nat → Value → List (Option Value)
  | [], _, _ => []
  | _ :: r, 0, v => some v :: r
  | a :: r, 1, v => kill a :: lset r 0 v
  | a :: r, n + 2, v => a :: lset r (n + 1) v
def lset0 : List (Option Value) → Int64 → List (Option Value)
  | _ :: _ :: r, x => some (.long x) :: none :: r
  | _, _ => []
def lsetL (l : List (Option Value)) (i : Nat) (x : Int64) : List (Option Value) := match i, l with
  | 0, l => lset0 l x
  | _, [] => []
  | 1, a :: r => kill a :: lset0 r x
  | n + 2, a :: r => a :: lsetL r (n + 1) x
def notLong : Option Value → Bool
  | some (.long _) => false
  | some (.double _) => false
  | _ => true
theorem kill_id {a : Option Value} (h : notLong a = true) : kill a = a := by
  rcases a with _ | v
  · rfl
  · cases v <;> first | rfl | (cases h; done)
theorem kill_some {a : Option Value} {v : Value} (h : kill a = some v) : a = some v ∧ v.category = 1 := by
  rcases a with _ | x
  · cases h
  · cases x <;> first | (cases h; done) | (cases h; exact ⟨rfl, rfl⟩)
theorem lg_lset {ls : List (Option Value)} {i j : Nat} {v x : Value} (h : lg (lset ls i v) j = some x) : (j = i ∧ x = v) ∨ (j ≠ i ∧ lg ls j = some x ∧ ¬ (j + 1 = i ∧ x.category = 2)) := by
  induction ls generalizing i j with
  | nil => simp [lset, lg] at h
  | cons a r ih =>
    rcases i with _ | _ | i
    · rcases j with _ | j
      · simp only [lset, lg] at h
        cases h
        exact Or.inl ⟨rfl, rfl⟩
      · exact Or.inr ⟨by omega, h, by omega⟩
    · rcases j with _ | j
      · simp only [lset, lg] at h
        obtain ⟨h1, h2⟩ := kill_some h
        exact Or.inr ⟨by omega, h1, by omega⟩
      · simp only [lset, lg] at h
        rcases ih h with ⟨h1, h2⟩ | ⟨h1, h2, h3⟩
        · exact Or.inl ⟨by omega, h2⟩
        · exact Or.inr ⟨by omega, h2, by omega⟩
    · rcases j with _ | j
      · exact Or.inr ⟨by omega, h, by omega⟩
      · simp only [lset, lg] at h
        rcases ih h with ⟨h1, h2⟩ | ⟨h1, h2, h3⟩
        · exact Or.inl ⟨by omega, h2⟩
        · exact Or.inr ⟨by omega, h2, fun z => h3 ⟨by omega, z.2⟩⟩
theorem lg_lsetL {ls : List (Option Value)} {i j : Nat} {v : Int64} {x : Value} (h : lg (lsetL ls i v) j = some x) : (j = i ∧ x = .long v) ∨ (j ≠ i ∧ j ≠ i + 1 ∧ lg ls j = some x ∧ ¬ (j + 1 = i ∧ x.category = 2)) := by
  have base : ∀ {l : List (Option Value)} {j : Nat}, lg (lset0 l v) j = some x → (j = 0 ∧ x = .long v) ∨ (1 < j ∧ lg l j = some x) := by
    intro l j h
    rcases l with _ | ⟨a, _ | ⟨b, r⟩⟩
    · simp [lset0, lg] at h
    · simp [lset0, lg] at h
    · rcases j with _ | _ | j
      · simp only [lset0, lg] at h
        cases h
        exact Or.inl ⟨rfl, rfl⟩
      · simp [lset0, lg] at h
      · exact Or.inr ⟨by omega, h⟩
  induction i using Nat.strongRecOn generalizing ls j with
  | _ i ih =>
    rcases i with _ | _ | i
    · have h : lg (lset0 ls v) j = some x := by cases ls <;> exact h
      rcases base h with ⟨h1, h2⟩ | ⟨h1, h2⟩
      · exact Or.inl ⟨h1, h2⟩
      · exact Or.inr ⟨by omega, by omega, h2, by omega⟩
    · rcases ls with _ | ⟨a, r⟩
      · simp [lsetL, lg] at h
      · have h : lg (kill a :: lset0 r v) j = some x := h
        rcases j with _ | j
        · obtain ⟨h1, h2⟩ := kill_some h
          exact Or.inr ⟨by omega, by omega, h1, by omega⟩
        · rcases base (show lg (lset0 r v) j = some x from h) with ⟨h1, h2⟩ | ⟨h1, h2⟩
          · exact Or.inl ⟨by omega, h2⟩
          · exact Or.inr ⟨by omega, by omega, h2, by omega⟩
    · rcases ls with _ | ⟨a, r⟩
      · simp [lsetL, lg] at h
      · have h : lg (a :: lsetL r (i + 1) v) j = some x := by rw [lsetL] at h; exact h
        rcases j with _ | j
        · exact Or.inr ⟨by omega, by omega, h, by omega⟩
        · rcases ih (i + 1) (by omega) (show lg (lsetL r (i + 1) v) j = some x from h) with ⟨h1, h2⟩ | ⟨h1, h2, h3, h4⟩
          · exact Or.inl ⟨by omega, h2⟩
          · exact Or.inr ⟨by omega, by omega, h3, fun z => h4 ⟨by omega, z.2⟩⟩
def llO (G : aG) : Nat → List (Option Value) → List (Nat × Value)
  | _, [] => []
  | n, none :: r => llO G (n + 1) r
  | n, some v :: r => (n, mv G v) :: llO G (n + 1) r
theorem llO_mem {G : aG} {n : Nat} {ls : List (Option Value)} {q : Nat × Value} : q ∈ llO G n ls ↔ ∃ i v, lg ls i = some v ∧ q = (n + i, mv G v) := by
  induction ls generalizing n with
  | nil => simp [llO, lg]
  | cons a r ih =>
    have sh : (∃ i v, lg r i = some v ∧ q = (n + 1 + i, mv G v)) ↔ ∃ i v, lg (a :: r) (i + 1) = some v ∧ q = (n + (i + 1), mv G v) := by
      constructor
      · rintro ⟨i, v, h1, h2⟩
        exact ⟨i, v, h1, by rw [h2]; simp; omega⟩
      · rintro ⟨i, v, h1, h2⟩
        exact ⟨i, v, h1, by rw [h2]; simp; omega⟩
    cases a with
    | none =>
      rw [llO, ih, sh]
      constructor
      · rintro ⟨i, v, h⟩
        exact ⟨i + 1, v, h⟩
      · rintro ⟨i, v, h1, h2⟩
        rcases i with _ | i
        · simp [lg] at h1
        · exact ⟨i, v, h1, h2⟩
    | some x =>
      rw [llO, List.mem_cons, ih, sh]
      constructor
      · rintro (h | ⟨i, v, h⟩)
        · exact ⟨0, x, rfl, h⟩
        · exact ⟨i + 1, v, h⟩
      · rintro ⟨i, v, h1, h2⟩
        rcases i with _ | i
        · simp only [lg] at h1
          cases h1
          exact Or.inl h2
        · exact Or.inr ⟨i, v, h1, h2⟩
theorem HL.has {G : aG} {la : Array Slot} {nL : Nat} {ls : List (Option Value)} (h : HL G la nL ls) : lv_has la nL (llO G 0 ls) := by
  refine ⟨h.1, h.2.1, fun q hq => ?_⟩
  obtain ⟨i, v, h1, rfl⟩ := llO_mem.mp hq
  simpa using h.2.2 i v h1
theorem HL.st {G : aG} {la' : Array Slot} {nL i : Nat} {v : Value} {ls : List (Option Value)} (h : lv_has la' nL ((i, mv G v) :: (llO G 0 ls).filter (fun q => !(q.1 == i) && !(q.1 + 1 == i && q.2.category == 2)))) : HL G la' nL (lset ls i v) := by
  refine ⟨h.1, h.2.1, fun j x hj => ?_⟩
  rcases lg_lset hj with ⟨rfl, rfl⟩ | ⟨h1, h2, h3⟩
  · exact h.2.2 (j, mv G x) List.mem_cons_self
  · refine h.2.2 (j, mv G x) (List.mem_cons_of_mem _ (List.mem_filter.mpr ⟨llO_mem.mpr ⟨j, x, h2, by simp⟩, ?_⟩))
    simp only [Bool.and_eq_true, Bool.not_eq_true', beq_eq_false_iff_ne, ne_eq, Bool.and_eq_false_iff, mv_cat]
    refine ⟨h1, ?_⟩
    by_cases q : j + 1 = i
    · exact Or.inr fun z => h3 ⟨q, z⟩
    · exact Or.inl q
theorem HL.stL {G : aG} {la' : Array Slot} {nL i : Nat} {v : Int64} {ls : List (Option Value)} (h : lv_has la' nL ((i, .long v) :: (llO G 0 ls).filter (fun q => !(q.1 == i) && (!(q.1 == i + 1) && !(q.1 + 1 == i && q.2.category == 2))))) : HL G la' nL (lsetL ls i v) := by
  refine ⟨h.1, h.2.1, fun j x hj => ?_⟩
  rcases lg_lsetL hj with ⟨rfl, rfl⟩ | ⟨h1, h2, h3, h4⟩
  · exact h.2.2 (j, .long v) List.mem_cons_self
  · refine h.2.2 (j, mv G x) (List.mem_cons_of_mem _ (List.mem_filter.mpr ⟨llO_mem.mpr ⟨j, x, h3, by simp⟩, ?_⟩))
    simp only [Bool.and_eq_true, Bool.not_eq_true', beq_eq_false_iff_ne, ne_eq, Bool.and_eq_false_iff, mv_cat]
    refine ⟨h1, h2, ?_⟩
    by_cases q : j + 1 = i
    · exact Or.inr fun z => h4 ⟨q, z⟩
    · exact Or.inl q
theorem HL.sub {G : aG} {la : Array Slot} {nL : Nat} {ls ls' : List (Option Value)} (h : HL G la nL ls) (hs : ∀ (i : Nat) (v : Value), lg ls' i = some v → lg ls i = some v) : HL G la nL ls' := ⟨h.1, h.2.1, fun i v hi => h.2.2 i v (hs i v hi)⟩
/-- loads and stores: which local, of which kind (0 int, 1 reference, 2 long) -/
def ldI : Instr → Option (Nat × Nat)
  | .iload i => some (i, 0)
  | .iload_n i => some (i.val, 0)
  | .aload i => some (i, 1)
  | .aload_n i => some (i.val, 1)
  | .lload i => some (i, 2)
  | .lload_n i => some (i.val, 2)
  | _ => none
def stI : Instr → Option (Nat × Nat)
  | .istore i => some (i, 0)
  | .istore_n i => some (i.val, 0)
  | .astore i => some (i, 1)
  | .astore_n i => some (i.val, 1)
  | .lstore i => some (i, 2)
  | .lstore_n i => some (i.val, 2)
  | _ => none
def vty : Value → Nat
  | .int _ => 0
  | .ref _ => 1
  | .null => 1
  | .long _ => 2
  | _ => 3
section A5
variable {S : aS} {C : aM} {d : Nat} {Q : Option Value → aH → Prop} {X : String → aH → Prop} {k1 k2 pc np tgt : Nat} {w : Int32} {ls ls' r : List (Option Value)} {st st' : List Value} {h : aH} {ins : Instr}
theorem a_ld {i t : Nat} {v : Value} (hC : look C pc = some (ins, np, tgt, w)) (hi : ldI ins = some (i, t)) (hl : lg ls i = some v) (ht : vty v = t) (k : AW S C d Q X k1 k2 np ls (v :: st) h) : AW S C d Q X k1 k2 pc ls st h := by
  intro p l e s m args below meth c H la locs cells slots mc ms G CC hS hL hR hF h1 h2
  have K := k p l e s m args below meth c H la locs cells slots mc ms G CC hS hL hR hF h1 h2
  have hg := hL.2.2 i v hl
  have hx := CC.1
  have hb := CC.2.1
  have hO := CC.2.2.2.2.2.2.2.2.2
  clear CC
  unfold ldI at hi
  split at hi <;> first | (cases hi; done) | (cases hi; obtain ⟨hd, rfl, -⟩ := okd hO hC rfl; cases v <;> first | (cases ht; done) | skip)
  · exact lv_iload hx hb hd hg K
  · exact lv_iload_n hx hb hd rfl hg K
  · exact lv_aloadN hx hb hd hg K
  · exact lv_aload hx hb hd hg K
  · exact lv_aload_nN hx hb hd rfl hg K
  · exact lv_aload_n hx hb hd rfl hg K
  · exact lv_lload hx hb hd hg K
  · exact lv_lload_n hx hb hd rfl hg K
theorem a_st {i t : Nat} {v : Value} (hC : look C pc = some (ins, np, tgt, w)) (hi : stI ins = some (i, t)) (ht : vty v = t) (ht2 : t < 2) (hn : i < C.2.2.1) (k : AW S C d Q X k1 k2 np (lset ls i v) st h) : AW S C d Q X k1 k2 pc ls (v :: st) h := by
  intro p l e s m args below meth c H la locs cells slots mc ms G CC hS hL hR hF h1 h2
  have K := fun la' q => k p l e s m args below meth c H la' locs cells slots mc ms G CC hS q hR hF h1 h2
  have hx := CC.1
  have hb := CC.2.1
  have hO := CC.2.2.2.2.2.2.2.2.2
  have hh := hL.has
  clear CC
  unfold stI at hi
  split at hi <;> first | (cases hi; done) | (cases hi; obtain ⟨hd, rfl, -⟩ := okd hO hC rfl; cases v <;> first | (cases ht; done) | skip)
  · exact lv_istore hx hb hd hh hn rfl (fun la' q => K la' (HL.st q))
  · exact lv_istore_n hx hb hd rfl hh hn rfl (fun la' q => K la' (HL.st q))
  · exact lv_astoreN hx hb hd hh hn rfl (fun la' q => K la' (HL.st q))
  · exact lv_astore hx hb hd hh hn rfl (fun la' q => K la' (HL.st q))
  · exact lv_astore_nN hx hb hd rfl hh hn rfl (fun la' q => K la' (HL.st q))
  · exact lv_astore_n hx hb hd rfl hh hn rfl (fun la' q => K la' (HL.st q))
  · omega
  · omega
theorem a_stL {i : Nat} {v : Int64} (hC : look C pc = some (ins, np, tgt, w)) (hi : stI ins = some (i, 2)) (hn : i + 1 < C.2.2.1) (k : AW S C d Q X k1 k2 np (lsetL ls i v) st h) : AW S C d Q X k1 k2 pc ls (.long v :: st) h := by
  intro p l e s m args below meth c H la locs cells slots mc ms G CC hS hL hR hF h1 h2
  have K := fun la' q => k p l e s m args below meth c H la' locs cells slots mc ms G CC hS q hR hF h1 h2
  have hx := CC.1
  have hb := CC.2.1
  have hO := CC.2.2.2.2.2.2.2.2.2
  have hh := hL.has
  clear CC
  unfold stI at hi
  split at hi <;> first | (cases hi; done) | (cases hi; obtain ⟨hd, rfl, -⟩ := okd hO hC rfl)
  · exact lv_lstore hx hb hd hh hn rfl (fun la' q => K la' (HL.stL q))
  · exact lv_lstore_n hx hb hd rfl hh hn rfl (fun la' q => K la' (HL.stL q))
theorem a_inc {i : Nat} {n : Int} {x : Int32} (hC : look C pc = some (.iinc i n, np, tgt, w)) (hl : lg ls i = some (.int x)) (hn : i < C.2.2.1) (k : AW S C d Q X k1 k2 np (lset ls i (.int (x + w))) st h) : AW S C d Q X k1 k2 pc ls st h := by
  intro p l e s m args below meth c H la locs cells slots mc ms G CC hS hL hR hF h1 h2
  obtain ⟨hd, rfl, ho⟩ := okd CC.2.2.2.2.2.2.2.2.2 hC rfl
  obtain ⟨kk, hk⟩ := List.getElem?_of_mem ((llO_mem (G := G) (n := 0) (ls := ls) (q := (i, .int x))).mpr ⟨i, .int x, hl, by simp [mv]⟩)
  exact lv_iinc CC.1 CC.2.1 hd hL.has hk (by rw [of_decide_eq_true ho]) hn rfl (fun la' q => k p l e s m args below meth c H la' locs cells slots mc ms G CC hS (HL.st q) hR hF h1 h2)
/-- forget locals -/
theorem a_sub (hs : ∀ (i : Nat) (v : Value), lg ls' i = some v → lg ls i = some v) (k : AW S C d Q X k1 k2 pc ls' st h) : AW S C d Q X k1 k2 pc ls st h := by
  intro p l e s m args below meth c H la locs cells slots mc ms G CC hS hL hR hF h1 h2
  exact k p l e s m args below meth c H la locs cells slots mc ms G CC hS (hL.sub hs) hR hF h1 h2
def lsub : List (Option Value) → List (Option Value) → Prop
  | [], _ => True
  | none :: r, _ :: r' => lsub r r'
  | some v :: r, o :: r' => o = some v ∧ lsub r r'
  | _ :: _, [] => False
theorem lsub_lg {ls ls' : List (Option Value)} (h : lsub ls' ls) : ∀ (i : Nat) (v : Value), lg ls' i = some v → lg ls i = some v := by
  induction ls' generalizing ls with
  | nil => intro i v hv; simp [lg] at hv
  | cons a r ih =>
    intro i v hv
    cases ls with
    | nil => cases a <;> exact False.elim h
    | cons b r' =>
      cases a with
      | none =>
        rcases i with _ | i
        · simp [lg] at hv
        · exact ih h i v hv
      | some x =>
        obtain ⟨rfl, h⟩ := h
        rcases i with _ | i
        · exact hv
        · exact ih h i v hv
theorem a_less (k : AW S C d Q X k1 k2 pc ls' st h) (hs : lsub ls' ls) : AW S C d Q X k1 k2 pc ls st h := a_sub (lsub_lg hs) k
theorem a_l0 {t : Nat} {v : Value} (hC : look C pc = some (ins, np, tgt, w)) (hi : ldI ins = some (0, t)) (ht : vty v = t) (k : AW S C d Q X k1 k2 np (some v :: r) (v :: st) h) : AW S C d Q X k1 k2 pc (some v :: r) st h := a_ld hC hi rfl ht k
theorem a_s0 {t : Nat} {v : Value} {oo : Option Value} (hC : look C pc = some (ins, np, tgt, w)) (hi : stI ins = some (0, t)) (ht : vty v = t) (ht2 : Nat.blt t 2 = true) (hn : Nat.ble 1 C.2.2.1 = true) (k : AW S C d Q X k1 k2 np (some v :: r) st h) : AW S C d Q X k1 k2 pc (oo :: r) (v :: st) h := a_st hC hi ht (Nat.le_of_ble_eq_true ht2) (Nat.le_of_ble_eq_true hn) (k)
theorem a_sL0 {v : Int64} {oo o2 : Option Value} (hC : look C pc = some (ins, np, tgt, w)) (hi : stI ins = some (0, 2)) (hn : Nat.ble 2 C.2.2.1 = true) (k : AW S C d Q X k1 k2 np (some (.long v) :: none :: r) st h) : AW S C d Q X k1 k2 pc (oo :: o2 :: r) (.long v :: st) h := a_stL hC hi (Nat.le_of_ble_eq_true hn) (k)
theorem a_i0 {n : Int} {x : Int32} (hC : look C pc = some (.iinc 0 n, np, tgt, w)) (hn : Nat.ble 1 C.2.2.1 = true) (k : AW S C d Q X k1 k2 np (some (.int (x + w)) :: r) st h) : AW S C d Q X k1 k2 pc (some (.int x) :: r) st h := a_inc hC rfl (Nat.le_of_ble_eq_true hn) (k)
theorem a_l1 {a0 : Option Value} {t : Nat} {v : Value} (hC : look C pc = some (ins, np, tgt, w)) (hi : ldI ins = some (1, t)) (ht : vty v = t) (k : AW S C d Q X k1 k2 np (a0 :: some v :: r) (v :: st) h) : AW S C d Q X k1 k2 pc (a0 :: some v :: r) st h := a_ld hC hi rfl ht k
theorem a_s1 {a0 : Option Value} {t : Nat} {v : Value} {oo : Option Value} (hC : look C pc = some (ins, np, tgt, w)) (hi : stI ins = some (1, t)) (ht : vty v = t) (ht2 : Nat.blt t 2 = true) (hl : notLong a0 = true) (hn : Nat.ble 2 C.2.2.1 = true) (k : AW S C d Q X k1 k2 np (a0 :: some v :: r) st h) : AW S C d Q X k1 k2 pc (a0 :: oo :: r) (v :: st) h := a_st hC hi ht (Nat.le_of_ble_eq_true ht2) (Nat.le_of_ble_eq_true hn) (by rw [show lset (a0 :: oo :: r) 1 v = a0 :: some v :: r by simp [lset, kill_id hl]]; exact k)
theorem a_sL1 {a0 : Option Value} {v : Int64} {oo o2 : Option Value} (hC : look C pc = some (ins, np, tgt, w)) (hi : stI ins = some (1, 2)) (hl : notLong a0 = true) (hn : Nat.ble 3 C.2.2.1 = true) (k : AW S C d Q X k1 k2 np (a0 :: some (.long v) :: none :: r) st h) : AW S C d Q X k1 k2 pc (a0 :: oo :: o2 :: r) (.long v :: st) h := a_stL hC hi (Nat.le_of_ble_eq_true hn) (by rw [show lsetL (a0 :: oo :: o2 :: r) 1 v = a0 :: some (.long v) :: none :: r by simp [lsetL, lset0, kill_id hl]]; exact k)
theorem a_i1 {a0 : Option Value} {n : Int} {x : Int32} (hC : look C pc = some (.iinc 1 n, np, tgt, w)) (hl : notLong a0 = true) (hn : Nat.ble 2 C.2.2.1 = true) (k : AW S C d Q X k1 k2 np (a0 :: some (.int (x + w)) :: r) st h) : AW S C d Q X k1 k2 pc (a0 :: some (.int x) :: r) st h := a_inc hC rfl (Nat.le_of_ble_eq_true hn) (by rw [show lset (a0 :: some (.int x) :: r) 1 (.int (x + w)) = a0 :: some (.int (x + w)) :: r by simp [lset, kill_id hl]]; exact k)
theorem a_l2 {a0 a1 : Option Value} {t : Nat} {v : Value} (hC : look C pc = some (ins, np, tgt, w)) (hi : ldI ins = some (2, t)) (ht : vty v = t) (k : AW S C d Q X k1 k2 np (a0 :: a1 :: some v :: r) (v :: st) h) : AW S C d Q X k1 k2 pc (a0 :: a1 :: some v :: r) st h := a_ld hC hi rfl ht k
theorem a_s2 {a0 a1 : Option Value} {t : Nat} {v : Value} {oo : Option Value} (hC : look C pc = some (ins, np, tgt, w)) (hi : stI ins = some (2, t)) (ht : vty v = t) (ht2 : Nat.blt t 2 = true) (hl : notLong a1 = true) (hn : Nat.ble 3 C.2.2.1 = true) (k : AW S C d Q X k1 k2 np (a0 :: a1 :: some v :: r) st h) : AW S C d Q X k1 k2 pc (a0 :: a1 :: oo :: r) (v :: st) h := a_st hC hi ht (Nat.le_of_ble_eq_true ht2) (Nat.le_of_ble_eq_true hn) (by rw [show lset (a0 :: a1 :: oo :: r) 2 v = a0 :: a1 :: some v :: r by simp [lset, kill_id hl]]; exact k)
theorem a_sL2 {a0 a1 : Option Value} {v : Int64} {oo o2 : Option Value} (hC : look C pc = some (ins, np, tgt, w)) (hi : stI ins = some (2, 2)) (hl : notLong a1 = true) (hn : Nat.ble 4 C.2.2.1 = true) (k : AW S C d Q X k1 k2 np (a0 :: a1 :: some (.long v) :: none :: r) st h) : AW S C d Q X k1 k2 pc (a0 :: a1 :: oo :: o2 :: r) (.long v :: st) h := a_stL hC hi (Nat.le_of_ble_eq_true hn) (by rw [show lsetL (a0 :: a1 :: oo :: o2 :: r) 2 v = a0 :: a1 :: some (.long v) :: none :: r by simp [lsetL, lset0, kill_id hl]]; exact k)
theorem a_i2 {a0 a1 : Option Value} {n : Int} {x : Int32} (hC : look C pc = some (.iinc 2 n, np, tgt, w)) (hl : notLong a1 = true) (hn : Nat.ble 3 C.2.2.1 = true) (k : AW S C d Q X k1 k2 np (a0 :: a1 :: some (.int (x + w)) :: r) st h) : AW S C d Q X k1 k2 pc (a0 :: a1 :: some (.int x) :: r) st h := a_inc hC rfl (Nat.le_of_ble_eq_true hn) (by rw [show lset (a0 :: a1 :: some (.int x) :: r) 2 (.int (x + w)) = a0 :: a1 :: some (.int (x + w)) :: r by simp [lset, kill_id hl]]; exact k)
theorem a_l3 {a0 a1 a2 : Option Value} {t : Nat} {v : Value} (hC : look C pc = some (ins, np, tgt, w)) (hi : ldI ins = some (3, t)) (ht : vty v = t) (k : AW S C d Q X k1 k2 np (a0 :: a1 :: a2 :: some v :: r) (v :: st) h) : AW S C d Q X k1 k2 pc (a0 :: a1 :: a2 :: some v :: r) st h := a_ld hC hi rfl ht k
theorem a_s3 {a0 a1 a2 : Option Value} {t : Nat} {v : Value} {oo : Option Value} (hC : look C pc = some (ins, np, tgt, w)) (hi : stI ins = some (3, t)) (ht : vty v = t) (ht2 : Nat.blt t 2 = true) (hl : notLong a2 = true) (hn : Nat.ble 4 C.2.2.1 = true) (k : AW S C d Q X k1 k2 np (a0 :: a1 :: a2 :: some v :: r) st h) : AW S C d Q X k1 k2 pc (a0 :: a1 :: a2 :: oo :: r) (v :: st) h := a_st hC hi ht (Nat.le_of_ble_eq_true ht2) (Nat.le_of_ble_eq_true hn) (by rw [show lset (a0 :: a1 :: a2 :: oo :: r) 3 v = a0 :: a1 :: a2 :: some v :: r by simp [lset, kill_id hl]]; exact k)
theorem a_sL3 {a0 a1 a2 : Option Value} {v : Int64} {oo o2 : Option Value} (hC : look C pc = some (ins, np, tgt, w)) (hi : stI ins = some (3, 2)) (hl : notLong a2 = true) (hn : Nat.ble 5 C.2.2.1 = true) (k : AW S C d Q X k1 k2 np (a0 :: a1 :: a2 :: some (.long v) :: none :: r) st h) : AW S C d Q X k1 k2 pc (a0 :: a1 :: a2 :: oo :: o2 :: r) (.long v :: st) h := a_stL hC hi (Nat.le_of_ble_eq_true hn) (by rw [show lsetL (a0 :: a1 :: a2 :: oo :: o2 :: r) 3 v = a0 :: a1 :: a2 :: some (.long v) :: none :: r by simp [lsetL, lset0, kill_id hl]]; exact k)
theorem a_i3 {a0 a1 a2 : Option Value} {n : Int} {x : Int32} (hC : look C pc = some (.iinc 3 n, np, tgt, w)) (hl : notLong a2 = true) (hn : Nat.ble 4 C.2.2.1 = true) (k : AW S C d Q X k1 k2 np (a0 :: a1 :: a2 :: some (.int (x + w)) :: r) st h) : AW S C d Q X k1 k2 pc (a0 :: a1 :: a2 :: some (.int x) :: r) st h := a_inc hC rfl (Nat.le_of_ble_eq_true hn) (by rw [show lset (a0 :: a1 :: a2 :: some (.int x) :: r) 3 (.int (x + w)) = a0 :: a1 :: a2 :: some (.int (x + w)) :: r by simp [lset, kill_id hl]]; exact k)
theorem a_l4 {a0 a1 a2 a3 : Option Value} {t : Nat} {v : Value} (hC : look C pc = some (ins, np, tgt, w)) (hi : ldI ins = some (4, t)) (ht : vty v = t) (k : AW S C d Q X k1 k2 np (a0 :: a1 :: a2 :: a3 :: some v :: r) (v :: st) h) : AW S C d Q X k1 k2 pc (a0 :: a1 :: a2 :: a3 :: some v :: r) st h := a_ld hC hi rfl ht k
theorem a_s4 {a0 a1 a2 a3 : Option Value} {t : Nat} {v : Value} {oo : Option Value} (hC : look C pc = some (ins, np, tgt, w)) (hi : stI ins = some (4, t)) (ht : vty v = t) (ht2 : Nat.blt t 2 = true) (hl : notLong a3 = true) (hn : Nat.ble 5 C.2.2.1 = true) (k : AW S C d Q X k1 k2 np (a0 :: a1 :: a2 :: a3 :: some v :: r) st h) : AW S C d Q X k1 k2 pc (a0 :: a1 :: a2 :: a3 :: oo :: r) (v :: st) h := a_st hC hi ht (Nat.le_of_ble_eq_true ht2) (Nat.le_of_ble_eq_true hn) (by rw [show lset (a0 :: a1 :: a2 :: a3 :: oo :: r) 4 v = a0 :: a1 :: a2 :: a3 :: some v :: r by simp [lset, kill_id hl]]; exact k)
theorem a_sL4 {a0 a1 a2 a3 : Option Value} {v : Int64} {oo o2 : Option Value} (hC : look C pc = some (ins, np, tgt, w)) (hi : stI ins = some (4, 2)) (hl : notLong a3 = true) (hn : Nat.ble 6 C.2.2.1 = true) (k : AW S C d Q X k1 k2 np (a0 :: a1 :: a2 :: a3 :: some (.long v) :: none :: r) st h) : AW S C d Q X k1 k2 pc (a0 :: a1 :: a2 :: a3 :: oo :: o2 :: r) (.long v :: st) h := a_stL hC hi (Nat.le_of_ble_eq_true hn) (by rw [show lsetL (a0 :: a1 :: a2 :: a3 :: oo :: o2 :: r) 4 v = a0 :: a1 :: a2 :: a3 :: some (.long v) :: none :: r by simp [lsetL, lset0, kill_id hl]]; exact k)
theorem a_i4 {a0 a1 a2 a3 : Option Value} {n : Int} {x : Int32} (hC : look C pc = some (.iinc 4 n, np, tgt, w)) (hl : notLong a3 = true) (hn : Nat.ble 5 C.2.2.1 = true) (k : AW S C d Q X k1 k2 np (a0 :: a1 :: a2 :: a3 :: some (.int (x + w)) :: r) st h) : AW S C d Q X k1 k2 pc (a0 :: a1 :: a2 :: a3 :: some (.int x) :: r) st h := a_inc hC rfl (Nat.le_of_ble_eq_true hn) (by rw [show lset (a0 :: a1 :: a2 :: a3 :: some (.int x) :: r) 4 (.int (x + w)) = a0 :: a1 :: a2 :: a3 :: some (.int (x + w)) :: r by simp [lset, kill_id hl]]; exact k)
theorem a_l5 {a0 a1 a2 a3 a4 : Option Value} {t : Nat} {v : Value} (hC : look C pc = some (ins, np, tgt, w)) (hi : ldI ins = some (5, t)) (ht : vty v = t) (k : AW S C d Q X k1 k2 np (a0 :: a1 :: a2 :: a3 :: a4 :: some v :: r) (v :: st) h) : AW S C d Q X k1 k2 pc (a0 :: a1 :: a2 :: a3 :: a4 :: some v :: r) st h := a_ld hC hi rfl ht k
theorem a_s5 {a0 a1 a2 a3 a4 : Option Value} {t : Nat} {v : Value} {oo : Option Value} (hC : look C pc = some (ins, np, tgt, w)) (hi : stI ins = some (5, t)) (ht : vty v = t) (ht2 : Nat.blt t 2 = true) (hl : notLong a4 = true) (hn : Nat.ble 6 C.2.2.1 = true) (k : AW S C d Q X k1 k2 np (a0 :: a1 :: a2 :: a3 :: a4 :: some v :: r) st h) : AW S C d Q X k1 k2 pc (a0 :: a1 :: a2 :: a3 :: a4 :: oo :: r) (v :: st) h := a_st hC hi ht (Nat.le_of_ble_eq_true ht2) (Nat.le_of_ble_eq_true hn) (by rw [show lset (a0 :: a1 :: a2 :: a3 :: a4 :: oo :: r) 5 v = a0 :: a1 :: a2 :: a3 :: a4 :: some v :: r by simp [lset, kill_id hl]]; exact k)
theorem a_sL5 {a0 a1 a2 a3 a4 : Option Value} {v : Int64} {oo o2 : Option Value} (hC : look C pc = some (ins, np, tgt, w)) (hi : stI ins = some (5, 2)) (hl : notLong a4 = true) (hn : Nat.ble 7 C.2.2.1 = true) (k : AW S C d Q X k1 k2 np (a0 :: a1 :: a2 :: a3 :: a4 :: some (.long v) :: none :: r) st h) : AW S C d Q X k1 k2 pc (a0 :: a1 :: a2 :: a3 :: a4 :: oo :: o2 :: r) (.long v :: st) h := a_stL hC hi (Nat.le_of_ble_eq_true hn) (by rw [show lsetL (a0 :: a1 :: a2 :: a3 :: a4 :: oo :: o2 :: r) 5 v = a0 :: a1 :: a2 :: a3 :: a4 :: some (.long v) :: none :: r by simp [lsetL, lset0, kill_id hl]]; exact k)
theorem a_i5 {a0 a1 a2 a3 a4 : Option Value} {n : Int} {x : Int32} (hC : look C pc = some (.iinc 5 n, np, tgt, w)) (hl : notLong a4 = true) (hn : Nat.ble 6 C.2.2.1 = true) (k : AW S C d Q X k1 k2 np (a0 :: a1 :: a2 :: a3 :: a4 :: some (.int (x + w)) :: r) st h) : AW S C d Q X k1 k2 pc (a0 :: a1 :: a2 :: a3 :: a4 :: some (.int x) :: r) st h := a_inc hC rfl (Nat.le_of_ble_eq_true hn) (by rw [show lset (a0 :: a1 :: a2 :: a3 :: a4 :: some (.int x) :: r) 5 (.int (x + w)) = a0 :: a1 :: a2 :: a3 :: a4 :: some (.int (x + w)) :: r by simp [lset, kill_id hl]]; exact k)
theorem a_l6 {a0 a1 a2 a3 a4 a5 : Option Value} {t : Nat} {v : Value} (hC : look C pc = some (ins, np, tgt, w)) (hi : ldI ins = some (6, t)) (ht : vty v = t) (k : AW S C d Q X k1 k2 np (a0 :: a1 :: a2 :: a3 :: a4 :: a5 :: some v :: r) (v :: st) h) : AW S C d Q X k1 k2 pc (a0 :: a1 :: a2 :: a3 :: a4 :: a5 :: some v :: r) st h := a_ld hC hi rfl ht k
theorem a_s6 {a0 a1 a2 a3 a4 a5 : Option Value} {t : Nat} {v : Value} {oo : Option Value} (hC : look C pc = some (ins, np, tgt, w)) (hi : stI ins = some (6, t)) (ht : vty v = t) (ht2 : Nat.blt t 2 = true) (hl : notLong a5 = true) (hn : Nat.ble 7 C.2.2.1 = true) (k : AW S C d Q X k1 k2 np (a0 :: a1 :: a2 :: a3 :: a4 :: a5 :: some v :: r) st h) : AW S C d Q X k1 k2 pc (a0 :: a1 :: a2 :: a3 :: a4 :: a5 :: oo :: r) (v :: st) h := a_st hC hi ht (Nat.le_of_ble_eq_true ht2) (Nat.le_of_ble_eq_true hn) (by rw [show lset (a0 :: a1 :: a2 :: a3 :: a4 :: a5 :: oo :: r) 6 v = a0 :: a1 :: a2 :: a3 :: a4 :: a5 :: some v :: r by simp [lset, kill_id hl]]; exact k)
theorem a_sL6 {a0 a1 a2 a3 a4 a5 : Option Value} {v : Int64} {oo o2 : Option Value} (hC : look C pc = some (ins, np, tgt, w)) (hi : stI ins = some (6, 2)) (hl : notLong a5 = true) (hn : Nat.ble 8 C.2.2.1 = true) (k : AW S C d Q X k1 k2 np (a0 :: a1 :: a2 :: a3 :: a4 :: a5 :: some (.long v) :: none :: r) st h) : AW S C d Q X k1 k2 pc (a0 :: a1 :: a2 :: a3 :: a4 :: a5 :: oo :: o2 :: r) (.long v :: st) h := a_stL hC hi (Nat.le_of_ble_eq_true hn) (by rw [show lsetL (a0 :: a1 :: a2 :: a3 :: a4 :: a5 :: oo :: o2 :: r) 6 v = a0 :: a1 :: a2 :: a3 :: a4 :: a5 :: some (.long v) :: none :: r by simp [lsetL, lset0, kill_id hl]]; exact k)
theorem a_i6 {a0 a1 a2 a3 a4 a5 : Option Value} {n : Int} {x : Int32} (hC : look C pc = some (.iinc 6 n, np, tgt, w)) (hl : notLong a5 = true) (hn : Nat.ble 7 C.2.2.1 = true) (k : AW S C d Q X k1 k2 np (a0 :: a1 :: a2 :: a3 :: a4 :: a5 :: some (.int (x + w)) :: r) st h) : AW S C d Q X k1 k2 pc (a0 :: a1 :: a2 :: a3 :: a4 :: a5 :: some (.int x) :: r) st h := a_inc hC rfl (Nat.le_of_ble_eq_true hn) (by rw [show lset (a0 :: a1 :: a2 :: a3 :: a4 :: a5 :: some (.int x) :: r) 6 (.int (x + w)) = a0 :: a1 :: a2 :: a3 :: a4 :: a5 :: some (.int (x + w)) :: r by simp [lset, kill_id hl]]; exact k)
theorem a_l7 {a0 a1 a2 a3 a4 a5 a6 : Option Value} {t : Nat} {v : Value} (hC : look C pc = some (ins, np, tgt, w)) (hi : ldI ins = some (7, t)) (ht : vty v = t) (k : AW S C d Q X k1 k2 np (a0 :: a1 :: a2 :: a3 :: a4 :: a5 :: a6 :: some v :: r) (v :: st) h) : AW S C d Q X k1 k2 pc (a0 :: a1 :: a2 :: a3 :: a4 :: a5 :: a6 :: some v :: r) st h := a_ld hC hi rfl ht k
theorem a_s7 {a0 a1 a2 a3 a4 a5 a6 : Option Value} {t : Nat} {v : Value} {oo : Option Value} (hC : look C pc = some (ins, np, tgt, w)) (hi : stI ins = some (7, t)) (ht : vty v = t) (ht2 : Nat.blt t 2 = true) (hl : notLong a6 = true) (hn : Nat.ble 8 C.2.2.1 = true) (k : AW S C d Q X k1 k2 np (a0 :: a1 :: a2 :: a3 :: a4 :: a5 :: a6 :: some v :: r) st h) : AW S C d Q X k1 k2 pc (a0 :: a1 :: a2 :: a3 :: a4 :: a5 :: a6 :: oo :: r) (v :: st) h := a_st hC hi ht (Nat.le_of_ble_eq_true ht2) (Nat.le_of_ble_eq_true hn) (by rw [show lset (a0 :: a1 :: a2 :: a3 :: a4 :: a5 :: a6 :: oo :: r) 7 v = a0 :: a1 :: a2 :: a3 :: a4 :: a5 :: a6 :: some v :: r by simp [lset, kill_id hl]]; exact k)
theorem a_sL7 {a0 a1 a2 a3 a4 a5 a6 : Option Value} {v : Int64} {oo o2 : Option Value} (hC : look C pc = some (ins, np, tgt, w)) (hi : stI ins = some (7, 2)) (hl : notLong a6 = true) (hn : Nat.ble 9 C.2.2.1 = true) (k : AW S C d Q X k1 k2 np (a0 :: a1 :: a2 :: a3 :: a4 :: a5 :: a6 :: some (.long v) :: none :: r) st h) : AW S C d Q X k1 k2 pc (a0 :: a1 :: a2 :: a3 :: a4 :: a5 :: a6 :: oo :: o2 :: r) (.long v :: st) h := a_stL hC hi (Nat.le_of_ble_eq_true hn) (by rw [show lsetL (a0 :: a1 :: a2 :: a3 :: a4 :: a5 :: a6 :: oo :: o2 :: r) 7 v = a0 :: a1 :: a2 :: a3 :: a4 :: a5 :: a6 :: some (.long v) :: none :: r by simp [lsetL, lset0, kill_id hl]]; exact k)
theorem a_i7 {a0 a1 a2 a3 a4 a5 a6 : Option Value} {n : Int} {x : Int32} (hC : look C pc = some (.iinc 7 n, np, tgt, w)) (hl : notLong a6 = true) (hn : Nat.ble 8 C.2.2.1 = true) (k : AW S C d Q X k1 k2 np (a0 :: a1 :: a2 :: a3 :: a4 :: a5 :: a6 :: some (.int (x + w)) :: r) st h) : AW S C d Q X k1 k2 pc (a0 :: a1 :: a2 :: a3 :: a4 :: a5 :: a6 :: some (.int x) :: r) st h := a_inc hC rfl (Nat.le_of_ble_eq_true hn) (by rw [show lset (a0 :: a1 :: a2 :: a3 :: a4 :: a5 :: a6 :: some (.int x) :: r) 7 (.int (x + w)) = a0 :: a1 :: a2 :: a3 :: a4 :: a5 :: a6 :: some (.int (x + w)) :: r by simp [lset, kill_id hl]]; exact k)
theorem a_l8 {a0 a1 a2 a3 a4 a5 a6 a7 : Option Value} {t : Nat} {v : Value} (hC : look C pc = some (ins, np, tgt, w)) (hi : ldI ins = some (8, t)) (ht : vty v = t) (k : AW S C d Q X k1 k2 np (a0 :: a1 :: a2 :: a3 :: a4 :: a5 :: a6 :: a7 :: some v :: r) (v :: st) h) : AW S C d Q X k1 k2 pc (a0 :: a1 :: a2 :: a3 :: a4 :: a5 :: a6 :: a7 :: some v :: r) st h := a_ld hC hi rfl ht k
theorem a_s8 {a0 a1 a2 a3 a4 a5 a6 a7 : Option Value} {t : Nat} {v : Value} {oo : Option Value} (hC : look C pc = some (ins, np, tgt, w)) (hi : stI ins = some (8, t)) (ht : vty v = t) (ht2 : Nat.blt t 2 = true) (hl : notLong a7 = true) (hn : Nat.ble 9 C.2.2.1 = true) (k : AW S C d Q X k1 k2 np (a0 :: a1 :: a2 :: a3 :: a4 :: a5 :: a6 :: a7 :: some v :: r) st h) : AW S C d Q X k1 k2 pc (a0 :: a1 :: a2 :: a3 :: a4 :: a5 :: a6 :: a7 :: oo :: r) (v :: st) h := a_st hC hi ht (Nat.le_of_ble_eq_true ht2) (Nat.le_of_ble_eq_true hn) (by rw [show lset (a0 :: a1 :: a2 :: a3 :: a4 :: a5 :: a6 :: a7 :: oo :: r) 8 v = a0 :: a1 :: a2 :: a3 :: a4 :: a5 :: a6 :: a7 :: some v :: r by simp [lset, kill_id hl]]; exact k)
theorem a_sL8 {a0 a1 a2 a3 a4 a5 a6 a7 : Option Value} {v : Int64} {oo o2 : Option Value} (hC : look C pc = some (ins, np, tgt, w)) (hi : stI ins = some (8, 2)) (hl : notLong a7 = true) (hn : Nat.ble 10 C.2.2.1 = true) (k : AW S C d Q X k1 k2 np (a0 :: a1 :: a2 :: a3 :: a4 :: a5 :: a6 :: a7 :: some (.long v) :: none :: r) st h) : AW S C d Q X k1 k2 pc (a0 :: a1 :: a2 :: a3 :: a4 :: a5 :: a6 :: a7 :: oo :: o2 :: r) (.long v :: st) h := a_stL hC hi (Nat.le_of_ble_eq_true hn) (by rw [show lsetL (a0 :: a1 :: a2 :: a3 :: a4 :: a5 :: a6 :: a7 :: oo :: o2 :: r) 8 v = a0 :: a1 :: a2 :: a3 :: a4 :: a5 :: a6 :: a7 :: some (.long v) :: none :: r by simp [lsetL, lset0, kill_id hl]]; exact k)
theorem a_i8 {a0 a1 a2 a3 a4 a5 a6 a7 : Option Value} {n : Int} {x : Int32} (hC : look C pc = some (.iinc 8 n, np, tgt, w)) (hl : notLong a7 = true) (hn : Nat.ble 9 C.2.2.1 = true) (k : AW S C d Q X k1 k2 np (a0 :: a1 :: a2 :: a3 :: a4 :: a5 :: a6 :: a7 :: some (.int (x + w)) :: r) st h) : AW S C d Q X k1 k2 pc (a0 :: a1 :: a2 :: a3 :: a4 :: a5 :: a6 :: a7 :: some (.int x) :: r) st h := a_inc hC rfl (Nat.le_of_ble_eq_true hn) (by rw [show lset (a0 :: a1 :: a2 :: a3 :: a4 :: a5 :: a6 :: a7 :: some (.int x) :: r) 8 (.int (x + w)) = a0 :: a1 :: a2 :: a3 :: a4 :: a5 :: a6 :: a7 :: some (.int (x + w)) :: r by simp [lset, kill_id hl]]; exact k)
theorem a_l9 {a0 a1 a2 a3 a4 a5 a6 a7 a8 : Option Value} {t : Nat} {v : Value} (hC : look C pc = some (ins, np, tgt, w)) (hi : ldI ins = some (9, t)) (ht : vty v = t) (k : AW S C d Q X k1 k2 np (a0 :: a1 :: a2 :: a3 :: a4 :: a5 :: a6 :: a7 :: a8 :: some v :: r) (v :: st) h) : AW S C d Q X k1 k2 pc (a0 :: a1 :: a2 :: a3 :: a4 :: a5 :: a6 :: a7 :: a8 :: some v :: r) st h := a_ld hC hi rfl ht k
theorem a_s9 {a0 a1 a2 a3 a4 a5 a6 a7 a8 : Option Value} {t : Nat} {v : Value} {oo : Option Value} (hC : look C pc = some (ins, np, tgt, w)) (hi : stI ins = some (9, t)) (ht : vty v = t) (ht2 : Nat.blt t 2 = true) (hl : notLong a8 = true) (hn : Nat.ble 10 C.2.2.1 = true) (k : AW S C d Q X k1 k2 np (a0 :: a1 :: a2 :: a3 :: a4 :: a5 :: a6 :: a7 :: a8 :: some v :: r) st h) : AW S C d Q X k1 k2 pc (a0 :: a1 :: a2 :: a3 :: a4 :: a5 :: a6 :: a7 :: a8 :: oo :: r) (v :: st) h := a_st hC hi ht (Nat.le_of_ble_eq_true ht2) (Nat.le_of_ble_eq_true hn) (by rw [show lset (a0 :: a1 :: a2 :: a3 :: a4 :: a5 :: a6 :: a7 :: a8 :: oo :: r) 9 v = a0 :: a1 :: a2 :: a3 :: a4 :: a5 :: a6 :: a7 :: a8 :: some v :: r by simp [lset, kill_id hl]]; exact k)
theorem a_sL9 {a0 a1 a2 a3 a4 a5 a6 a7 a8 : Option Value} {v : Int64} {oo o2 : Option Value} (hC : look C pc = some (ins, np, tgt, w)) (hi : stI ins = some (9, 2)) (hl : notLong a8 = true) (hn : Nat.ble 11 C.2.2.1 = true) (k : AW S C d Q X k1 k2 np (a0 :: a1 :: a2 :: a3 :: a4 :: a5 :: a6 :: a7 :: a8 :: some (.long v) :: none :: r) st h) : AW S C d Q X k1 k2 pc (a0 :: a1 :: a2 :: a3 :: a4 :: a5 :: a6 :: a7 :: a8 :: oo :: o2 :: r) (.long v :: st) h := a_stL hC hi (Nat.le_of_ble_eq_true hn) (by rw [show lsetL (a0 :: a1 :: a2 :: a3 :: a4 :: a5 :: a6 :: a7 :: a8 :: oo :: o2 :: r) 9 v = a0 :: a1 :: a2 :: a3 :: a4 :: a5 :: a6 :: a7 :: a8 :: some (.long v) :: none :: r by simp [lsetL, lset0, kill_id hl]]; exact k)
theorem a_i9 {a0 a1 a2 a3 a4 a5 a6 a7 a8 : Option Value} {n : Int} {x : Int32} (hC : look C pc = some (.iinc 9 n, np, tgt, w)) (hl : notLong a8 = true) (hn : Nat.ble 10 C.2.2.1 = true) (k : AW S C d Q X k1 k2 np (a0 :: a1 :: a2 :: a3 :: a4 :: a5 :: a6 :: a7 :: a8 :: some (.int (x + w)) :: r) st h) : AW S C d Q X k1 k2 pc (a0 :: a1 :: a2 :: a3 :: a4 :: a5 :: a6 :: a7 :: a8 :: some (.int x) :: r) st h := a_inc hC rfl (Nat.le_of_ble_eq_true hn) (by rw [show lset (a0 :: a1 :: a2 :: a3 :: a4 :: a5 :: a6 :: a7 :: a8 :: some (.int x) :: r) 9 (.int (x + w)) = a0 :: a1 :: a2 :: a3 :: a4 :: a5 :: a6 :: a7 :: a8 :: some (.int (x + w)) :: r by simp [lset, kill_id hl]]; exact k)
theorem a_l10 {a0 a1 a2 a3 a4 a5 a6 a7 a8 a9 : Option Value} {t : Nat} {v : Value} (hC : look C pc = some (ins, np, tgt, w)) (hi : ldI ins = some (10, t)) (ht : vty v = t) (k : AW S C d Q X k1 k2 np (a0 :: a1 :: a2 :: a3 :: a4 :: a5 :: a6 :: a7 :: a8 :: a9 :: some v :: r) (v :: st) h) : AW S C d Q X k1 k2 pc (a0 :: a1 :: a2 :: a3 :: a4 :: a5 :: a6 :: a7 :: a8 :: a9 :: some v :: r) st h := a_ld hC hi rfl ht k
theorem a_s10 {a0 a1 a2 a3 a4 a5 a6 a7 a8 a9 : Option Value} {t : Nat} {v : Value} {oo : Option Value} (hC : look C pc = some (ins, np, tgt, w)) (hi : stI ins = some (10, t)) (ht : vty v = t) (ht2 : Nat.blt t 2 = true) (hl : notLong a9 = true) (hn : Nat.ble 11 C.2.2.1 = true) (k : AW S C d Q X k1 k2 np (a0 :: a1 :: a2 :: a3 :: a4 :: a5 :: a6 :: a7 :: a8 :: a9 :: some v :: r) st h) : AW S C d Q X k1 k2 pc (a0 :: a1 :: a2 :: a3 :: a4 :: a5 :: a6 :: a7 :: a8 :: a9 :: oo :: r) (v :: st) h := a_st hC hi ht (Nat.le_of_ble_eq_true ht2) (Nat.le_of_ble_eq_true hn) (by rw [show lset (a0 :: a1 :: a2 :: a3 :: a4 :: a5 :: a6 :: a7 :: a8 :: a9 :: oo :: r) 10 v = a0 :: a1 :: a2 :: a3 :: a4 :: a5 :: a6 :: a7 :: a8 :: a9 :: some v :: r by simp [lset, kill_id hl]]; exact k)
theorem a_sL10 {a0 a1 a2 a3 a4 a5 a6 a7 a8 a9 : Option Value} {v : Int64} {oo o2 : Option Value} (hC : look C pc = some (ins, np, tgt, w)) (hi : stI ins = some (10, 2)) (hl : notLong a9 = true) (hn : Nat.ble 12 C.2.2.1 = true) (k : AW S C d Q X k1 k2 np (a0 :: a1 :: a2 :: a3 :: a4 :: a5 :: a6 :: a7 :: a8 :: a9 :: some (.long v) :: none :: r) st h) : AW S C d Q X k1 k2 pc (a0 :: a1 :: a2 :: a3 :: a4 :: a5 :: a6 :: a7 :: a8 :: a9 :: oo :: o2 :: r) (.long v :: st) h := a_stL hC hi (Nat.le_of_ble_eq_true hn) (by rw [show lsetL (a0 :: a1 :: a2 :: a3 :: a4 :: a5 :: a6 :: a7 :: a8 :: a9 :: oo :: o2 :: r) 10 v = a0 :: a1 :: a2 :: a3 :: a4 :: a5 :: a6 :: a7 :: a8 :: a9 :: some (.long v) :: none :: r by simp [lsetL, lset0, kill_id hl]]; exact k)
theorem a_i10 {a0 a1 a2 a3 a4 a5 a6 a7 a8 a9 : Option Value} {n : Int} {x : Int32} (hC : look C pc = some (.iinc 10 n, np, tgt, w)) (hl : notLong a9 = true) (hn : Nat.ble 11 C.2.2.1 = true) (k : AW S C d Q X k1 k2 np (a0 :: a1 :: a2 :: a3 :: a4 :: a5 :: a6 :: a7 :: a8 :: a9 :: some (.int (x + w)) :: r) st h) : AW S C d Q X k1 k2 pc (a0 :: a1 :: a2 :: a3 :: a4 :: a5 :: a6 :: a7 :: a8 :: a9 :: some (.int x) :: r) st h := a_inc hC rfl (Nat.le_of_ble_eq_true hn) (by rw [show lset (a0 :: a1 :: a2 :: a3 :: a4 :: a5 :: a6 :: a7 :: a8 :: a9 :: some (.int x) :: r) 10 (.int (x + w)) = a0 :: a1 :: a2 :: a3 :: a4 :: a5 :: a6 :: a7 :: a8 :: a9 :: some (.int (x + w)) :: r by simp [lset, kill_id hl]]; exact k)
end A5
end
section
/-! ===== the rules of AW: the heap ===== -/
theorem fv_int {G : aG} {I : Nat → Nat → Int32} {R : Nat → Nat → Nat} {p k : Nat} {ty : FieldType} (h : isIntTy ty = true) : fv G I R p ty k = .int (I p k) := by
  cases ty <;> first | rfl | (cases h; done)
theorem fv_ref {G : aG} {I : Nat → Nat → Int32} {R : Nat → Nat → Nat} {p k : Nat} {ty : FieldType} (h : isRefTy ty = true) : fv G I R p ty k = mv G (rv (R p k)) := by
  cases ty <;> first | rfl | (cases h; done)
theorem Rep.ob {G : aG} {h : aH} {H : Heap} {p ci : Nat} (hR : Rep G h H) (hK : h.1 p = (1, ci)) : obA G h.2.1 h.2.2.2.1 H p ci := by
  have q := hR.1 p
  unfold cellA at q
  rw [hK] at q
  exact q
theorem Rep.ar {G : aG} {h : aH} {H : Heap} {p t n : Nat} (hR : Rep G h H) (hK : h.1 p = (t + 2, n)) : arA G h.2.1 h.2.2.1 h.2.2.2.1 H p (t + 2) n := by
  have q := hR.1 p
  unfold cellA at q
  rw [hK] at q
  exact q
theorem cellA_congr {G : aG} {K : Nat → Nat × Nat} {I I' : Nat → Nat → Int32} {L L' : Nat → Nat → Int64} {R R' : Nat → Nat → Nat} {t t' : Nat} {H H' : Heap} {q : Nat} (hI : I' q = I q) (hL : L' q = L q) (hR : R' q = R q) (hH : (K q).1 ≠ 0 → H'[ad G q]? = H[ad G q]?) (h : cellA G (K, I, L, R, t) H q) : cellA G (K, I', L', R', t') H' q := by
  unfold cellA at h ⊢
  dsimp only at h ⊢
  rcases hk : K q with ⟨a, b⟩
  rw [hk] at h hH
  rcases a with _ | _ | a
  · trivial
  · obtain ⟨r, h1, cell, h2, h3, h4, h5⟩ := h
    refine ⟨r, h1, cell, (hH (by simp)).trans h2, h3, h4, fun k hk => ?_⟩
    rw [h5 k hk]
    cases r.2 k <;> simp [fv, hI, hR]
  · have e : (fun j => ev G I' L' R' (a + 2) q j) = fun j => ev G I L R (a + 2) q j := by
      funext j
      unfold ev
      rw [hI, hL, hR]
    show H'[ad G q]? = some (arrV _ _ _)
    rw [e, hH (by simp)]
    exact h
theorem ad_inj {G : aG} {p q : Nat} (hp : 200 ≤ p) (hq : 200 ≤ q) (h : ad G p = ad G q) : p = q := by
  rw [ad_dyn hp, ad_dyn hq] at h
  omega
theorem aA_ad {G : aG} {p : Nat} (hp : 200 ≤ p) : aA G (ad G p) := by
  rw [ad_dyn hp]
  exact Nat.le_add_right _ _
/-- one place is written -/
theorem Rep.set {G : aG} {K : Nat → Nat × Nat} {I I' : Nat → Nat → Int32} {L L' : Nat → Nat → Int64} {R R' : Nat → Nat → Nat} {t : Nat} {H H' : Heap} {p : Nat} (hR : Rep G (K, I, L, R, t) H) (hp : 200 ≤ p) (hI : ∀ q, q ≠ p → I' q = I q) (hL : ∀ q, q ≠ p → L' q = L q) (hRR : ∀ q, q ≠ p → R' q = R q) (hz : H'.size = H.size) (hH : ∀ q : Nat, q ≠ ad G p → H'[q]? = H[q]?) (h : cellA G (K, I', L', R', t) H' p) : Rep G (K, I', L', R', t) H' := by
  obtain ⟨h1, h2, h3, h4⟩ := hR
  refine ⟨fun q => ?_, h2, fun z => by rw [hz]; exact h3 z, by rw [hz]; exact h4⟩
  by_cases hq : q = p
  · subst hq
    exact h
  · exact cellA_congr (hI q hq) (hL q hq) (hRR q hq) (fun hk => hH _ fun e => hq (ad_inj (h2 q hk) hp e)) (h1 q)
section A6
variable {S : aS} {C : aM} {d : Nat} {Q : Option Value → aH → Prop} {X : String → aH → Prop} {k1 k2 pc np tgt : Nat} {w : Int32} {ls ls' : List (Option Value)} {st st' : List Value} {h : aH} {ins : Instr}
variable {K : Nat → Nat × Nat} {I : Nat → Nat → Int32} {L : Nat → Nat → Int64} {R : Nat → Nat → Nat} {t : Nat}
/-- more may be made -/
theorem a_room {j1 j2 : Nat} (h1 : j1 ≤ k1) (h2 : j2 ≤ k2) (k : AW S C d Q X j1 j2 pc ls st h) : AW S C d Q X k1 k2 pc ls st h := by
  intro p l e s m args below meth c H la locs cells slots mc ms G CC hS hL hR hF g1 g2
  exact k p l e s m args below meth c H la locs cells slots mc ms G CC hS hL hR hF (by omega) (by omega)
/-- what the tables say of a field -/
theorem lf_use {own : String} {idx ci k : Nat} {r : vw_C × (Nat → FieldType)} {G : aG} {s : State} {args : Array Value} (hf : LF own idx ci k r) (hS : SW S G s) :
    ∃ (ref : String) (cf : ClassId) (kf : Class) (fi : Nat) (f : Field), (Cond.fieldLink own idx ref (r.1.2.1 k).2.1 (r.1.2.1 k).2.2.1).before args s = true ∧ s.fieldFound? ref (r.1.2.1 k).2.1 (r.1.2.1 k).2.2.1 = some (cf, kf, fi, f) ∧ s.fieldFound? (r.1.2.1 k).1 (r.1.2.1 k).2.1 (r.1.2.1 k).2.2.1 = some (cf, kf, fi, f) ∧ f.isStatic = false ∧ f.slot = G.1.2 ci k := by
  obtain ⟨hc, ⟨hws, -, -⟩, hk, ref, hl, hsame⟩ := hf
  obtain ⟨hSl, hfc, kC, hkC, hkind⟩ := hS.1 ci r hc
  obtain ⟨cf, kf, fi, f, hi, hsl⟩ := hSl k hk
  have hts : ∀ w ∈ u_ws r.1.1 r.1.2.1 r.1.2.2, w.before args s = true := fun w hw => hS.2.2.1 w (hws w hw).1 (by rw [(hws w hw).2]; rfl) args
  refine ⟨ref, cf, kf, fi, f, hS.2.2.1 _ hl rfl args, ?_, hi, (u_facts hfc hkC (u_lays hts (fun w hw => hw) hk) hi).1, hsl⟩
  rcases hsame with rfl | hs
  · exact hi
  · exact u_same (hS.2.2.1 _ hs rfl args) _ hi
theorem a_get {idx ci k p : Nat} {r : vw_C × (Nat → FieldType)} {v : Value} (hC : look C pc = some (.getfield idx, np, tgt, w)) (hf : LF C.1.cls idx ci k r) (hK : h.1 p = (1, ci)) (hv : ∀ G : aG, fv G h.2.1 h.2.2.2.1 p (r.2 k) k = mv G v) (kk : AW S C d Q X k1 k2 np ls (v :: st) h) : AW S C d Q X k1 k2 pc ls (.ref p :: st) h := by
  intro p' l e s m args below meth c H la locs cells slots mc ms G CC hS hL hR hF h1 h2
  obtain ⟨hd, rfl, -⟩ := okd CC.2.2.2.2.2.2.2.2.2 hC rfl
  obtain ⟨ref, cf, kf, fi, f, hl, hi, -, hst, hsl⟩ := lf_use (args := args) hf hS
  obtain ⟨r', hr', cell, q1, q2, q3, q4⟩ := hR.ob hK
  cases hf.1.symm.trans hr'
  refine W.getf CC.1 CC.2.1 CC.2.2.2.2.2.1 hl hi hst q1 (by rw [q3]; exact fun z => by cases z) (v := mv G v) (by rw [hsl, q4 k hf.2.2.1, hv]) rfl rfl hd ?_
  exact kk p' l e s m args below meth c H la locs cells slots mc ms G CC hS hL hR hF h1 h2
theorem a_geti {idx ci k p : Nat} (hC : look C pc = some (.getfield idx, np, tgt, w)) (hf : LFi C.1.cls idx ci k) (hK : K p = (1, ci)) (kk : AW S C d Q X k1 k2 np ls (.int (I p k) :: st) (K, I, L, R, t)) : AW S C d Q X k1 k2 pc ls (.ref p :: st) (K, I, L, R, t) := by
  obtain ⟨r, hf, ht⟩ := hf
  exact a_get hC hf hK (fun G => fv_int ht) kk
theorem a_getr {idx ci k p : Nat} (hC : look C pc = some (.getfield idx, np, tgt, w)) (hf : LFr C.1.cls idx ci k) (hK : K p = (1, ci)) (kk : AW S C d Q X k1 k2 np ls (rv (R p k) :: st) (K, I, L, R, t)) : AW S C d Q X k1 k2 pc ls (.ref p :: st) (K, I, L, R, t) := by
  obtain ⟨r, hf, ht⟩ := hf
  exact a_get hC hf hK (fun G => fv_ref ht) kk
theorem a_getq {idx ci k p q : Nat} (hC : look C pc = some (.getfield idx, np, tgt, w)) (hf : LFr C.1.cls idx ci k) (hK : K p = (1, ci)) (hq : R p k = q + 1) (kk : AW S C d Q X k1 k2 np ls (.ref q :: st) (K, I, L, R, t)) : AW S C d Q X k1 k2 pc ls (.ref p :: st) (K, I, L, R, t) := by
  refine a_getr hC hf hK ?_
  rw [hq]
  exact kk
/-- a field is written: not final, or in the class's own constructor -/
theorem a_put {idx ci k p : Nat} {r : vw_C × (Nat → FieldType)} {v : Value} {I' : Nat → Nat → Int32} {R' : Nat → Nat → Nat} (hC : look C pc = some (.putfield idx, np, tgt, w)) (hf : LF C.1.cls idx ci k r) (hfin : (r.1.2.1 k).2.2.2 = false ∨ ((r.1.2.1 k).2.2.2 = true ∧ C.1.name = "<init>" ∧ (r.1.2.1 k).1 = C.1.cls)) (hK : K p = (1, ci)) (hn : ∀ G : aG, narrow (r.2 k) (mv G v) = mv G v) (hfit : ∀ G : aG, fits (r.2 k) (mv G v) = true)
    (hI : ∀ q, q ≠ p → I' q = I q) (hR' : ∀ q, q ≠ p → R' q = R q) (hj : ∀ j, j ≠ k → I' p j = I p j ∧ R' p j = R p j) (hv : ∀ G : aG, fv G I' R' p (r.2 k) k = mv G v)
    (kk : AW S C d Q X k1 k2 np ls st (K, I', L, R', t)) : AW S C d Q X k1 k2 pc ls (v :: .ref p :: st) (K, I, L, R, t) := by
  intro p' l e s m args below meth c H la locs cells slots mc ms G CC hS hL hR hF h1 h2
  obtain ⟨hd, rfl, -⟩ := okd CC.2.2.2.2.2.2.2.2.2 hC rfl
  obtain ⟨ref, cf, kf, fi, f, hl, hi, hi0, hst, hsl⟩ := lf_use (args := args) hf hS
  obtain ⟨r', hr', cell, q1, q2, q3, q4⟩ := hR.ob hK
  cases hf.1.symm.trans hr'
  have hp : 200 ≤ p := hR.2.1 p (by show (K p).1 ≠ 0; rw [hK]; simp)
  obtain ⟨hSl, hfc, kC, hkC, hkind⟩ := hS.1 ci r hf.1
  have hts : ∀ w ∈ u_ws r.1.1 r.1.2.1 r.1.2.2, w.before args s = true := fun w hw => hS.2.2.1 w (hf.2.1.1 w hw).1 (by rw [(hf.2.1.1 w hw).2]; rfl) args
  have hlay := u_lays hts (fun w hw => hw) hf.2.2.1
  have hd0 := hf.2.1.2.2 k hf.2.2.1
  have hap : ∀ a b, a < r.1.2.2 → b < r.1.2.2 → a ≠ b → G.1.2 ci a ≠ G.1.2 ci b := by
    intro a b ha hb hne
    obtain ⟨_, _, _, fa, hia, ea⟩ := hSl a ha
    obtain ⟨_, _, _, fb, hib, eb⟩ := hSl b hb
    rw [← ea, ← eb]
    refine u_apart (u_lays hts (fun w hw => hw) ha) (u_lays hts (fun w hw => hw) hb) hia hib ?_
    rw [(State.fieldFound?_type hia (hf.2.1.2.2 a ha)).1, (State.fieldFound?_type hib (hf.2.1.2.2 b hb)).1]
    exact hf.2.1.2.1 a ha b hb hne
  have fin : ∀ H' : Heap, H'[ad G p]? = some (cell.setSlot f.slot (mv G v)) → H'.size = H.size → (∀ q, q ≠ ad G p → H'[q]? = H[q]?) → Rep G (K, I', L, R', t) H' ∧ va_S (aA G) s.heap H' (locs ++ [⟨ad G p, f.slot⟩]) := by
    intro H' e1 e2 e3
    refine ⟨Rep.set hR hp hI (fun _ _ => rfl) hR' e2 e3 ?_, hF.put e2 e3 (aA_ad hp)⟩
    show cellA G (K, I', L, R', t) H' p
    unfold cellA
    dsimp only
    rw [hK]
    refine ⟨r, hf.1, _, e1, q2, q3, fun j hjn => ?_⟩
    rw [hsl]
    by_cases hjk : j = k
    · subst hjk
      rw [Cell.slots_setSlot_self _ (k2_hasslot (q4 j hjn)), hv]
    · rw [slot_ne _ _ (hap k j hf.2.2.1 hjn (Ne.symm hjk)), q4 j hjn]
      obtain ⟨z1, z2⟩ := hj j hjk
      show some (fv G I R p (r.2 j) j) = some (fv G I' R' p (r.2 j) j)
      cases r.2 j <;> simp [fv, z1, z2]
  have hlt : f.slot < cell.slots.size := by rw [hsl]; exact k2_hasslot (q4 k hf.2.2.1)
  have done : ∀ H' : Heap, H'[ad G p]? = some (cell.setSlot f.slot (mv G v)) → H'.size = H.size → (∀ q, q ≠ ad G p → H'[q]? = H[q]?) → W p' l e (rmD d mc ms) s m args below meth c H' (locs ++ [⟨ad G p, f.slot⟩]) cells slots (vx_MQ below (QcM G Q) (XcM G X) args s mc ms (aA G)) (F0 m (pc + 3) la (st.map (mv G))) := by
    intro H' e1 e2 e3
    obtain ⟨z1, z2⟩ := fin H' e1 e2 e3
    exact kk p' l e s m args below meth c H' la _ cells slots mc ms G CC hS hL z1 z2 h1 h2
  rcases hfin with hfin | ⟨hfin, hin, hdecl⟩
  · have hlay' := hts _ (u_in_lay hf.2.2.1)
    unfold u_lay at hlay'
    rw [if_neg (by rw [hfin]; decide)] at hlay'
    have h6 := u_store hfc hkC hkind hlay' hi0 hd0 (hn G) (hfit G)
    exact W.putK CC.1 CC.2.1 (f := f) ⟨CC.2.2.2.2.2.1, hl, ⟨_, _, _, hi⟩, hst⟩ (by rw [q2]; exact h6) q1 q3 hlt rfl rfl hd done
  · have hcf : m.cls = cf := by
      have h8 := hts _ (u_in_lay hf.2.2.1)
      unfold u_lay at h8
      rw [if_pos hfin] at h8
      obtain ⟨_, _, c', _, _, _, -, -, hf', -, -, -, hown2, -⟩ := Cond.laysFinal_spec h8
      have e1 : c' = cf := by have := hi0.symm.trans hf'; simp at this; exact this.1.symm
      rw [hdecl] at hown2
      rw [← e1]; exact Option.some.inj (CC.2.2.2.2.2.1.symm.trans hown2)
    exact W.putFinK CC.1 CC.2.1 CC.2.2.2.2.2.1 hl hi hst hcf (CC.2.2.2.2.2.2.1.trans hin) (by rw [q2]; exact u_fits hfc hkC hkind hlay hi0 hd0 (hn G) (hfit G)) q1 q3 hlt rfl rfl hd done
end A6
end
section
/-! ===== the rules of AW: fields by kind, arrays, answers ===== -/
theorem nar_ref {ty : FieldType} (h : isRefTy ty = true) (v : Value) (hv : v = .null ∨ ∃ a, v = .ref a) : narrow ty v = v ∧ fits ty v = true := by
  rcases hv with rfl | ⟨a, rfl⟩ <;> cases ty <;> first | (cases h; done) | exact ⟨rfl, rfl⟩
theorem mv_rv_or (G : aG) (r : Nat) : mv G (rv r) = .null ∨ ∃ a, mv G (rv r) = .ref a := by cases r <;> first | exact Or.inl rfl | exact Or.inr ⟨_, rfl⟩
section A7
variable {S : aS} {C : aM} {d : Nat} {Q : Option Value → aH → Prop} {X : String → aH → Prop} {k1 k2 pc np tgt : Nat} {w : Int32} {ls ls' : List (Option Value)} {st st' : List Value} {h : aH} {ins : Instr}
variable {K : Nat → Nat × Nat} {I : Nat → Nat → Int32} {L : Nat → Nat → Int64} {R : Nat → Nat → Nat} {t : Nat}
theorem a_puti {idx ci k p : Nat} {x : Int32} (hC : look C pc = some (.putfield idx, np, tgt, w)) (hf : LPi C.1.cls C.1.name idx ci k) (hK : K p = (1, ci)) (kk : AW S C d Q X k1 k2 np ls st (K, up2 I p k x, L, R, t)) : AW S C d Q X k1 k2 pc ls (.int x :: .ref p :: st) (K, I, L, R, t) := by
  obtain ⟨r, ⟨hf, hfin⟩, ht⟩ := hf
  refine a_put hC hf hfin hK (fun G => ?_) (fun G => ?_) (fun q hq => up2_row hq) (fun _ _ => rfl) (fun j hj => ⟨up2_ne (Or.inr hj), rfl⟩) (fun G => ?_) kk
  · rw [ht]; rfl
  · rw [ht]; rfl
  · rw [ht]; show Value.int (up2 I p k x p k) = _; rw [up2_at]; rfl
theorem a_putz {idx ci k p : Nat} {x : Int32} (hC : look C pc = some (.putfield idx, np, tgt, w)) (hf : LPz C.1.cls C.1.name idx ci k) (hx : narrow .boolean (.int x) = .int x ∧ fits .boolean (.int x) = true) (hK : K p = (1, ci)) (kk : AW S C d Q X k1 k2 np ls st (K, up2 I p k x, L, R, t)) : AW S C d Q X k1 k2 pc ls (.int x :: .ref p :: st) (K, I, L, R, t) := by
  obtain ⟨r, ⟨hf, hfin⟩, ht⟩ := hf
  refine a_put hC hf hfin hK (fun G => ?_) (fun G => ?_) (fun q hq => up2_row hq) (fun _ _ => rfl) (fun j hj => ⟨up2_ne (Or.inr hj), rfl⟩) (fun G => ?_) kk
  · rw [ht]; exact hx.1
  · rw [ht]; exact hx.2
  · rw [ht]; show Value.int (up2 I p k x p k) = _; rw [up2_at]; rfl
theorem a_putr {idx ci k p q : Nat} (hC : look C pc = some (.putfield idx, np, tgt, w)) (hf : LPr C.1.cls C.1.name idx ci k) (hK : K p = (1, ci)) (kk : AW S C d Q X k1 k2 np ls st (K, I, L, up2 R p k q, t)) : AW S C d Q X k1 k2 pc ls (rv q :: .ref p :: st) (K, I, L, R, t) := by
  obtain ⟨r, ⟨hf, hfin⟩, ht⟩ := hf
  refine a_put hC hf hfin hK (fun G => (nar_ref ht _ (mv_rv_or G q)).1) (fun G => (nar_ref ht _ (mv_rv_or G q)).2) (fun _ _ => rfl) (fun q hq => up2_row hq) (fun j hj => ⟨rfl, up2_ne (Or.inr hj)⟩) (fun G => ?_) kk
  rw [fv_ref ht, up2_at]
theorem a_putq {idx ci k p q : Nat} (hC : look C pc = some (.putfield idx, np, tgt, w)) (hf : LPr C.1.cls C.1.name idx ci k) (hK : K p = (1, ci)) (kk : AW S C d Q X k1 k2 np ls st (K, I, L, up2 R p k (q + 1), t)) : AW S C d Q X k1 k2 pc ls (.ref q :: .ref p :: st) (K, I, L, R, t) := a_putr (q := q + 1) hC hf hK kk
/-! arrays -/
theorem arrV_kn (c : ClassId) (n : Nat) (f : Nat → Value) : (arrV c n f).vm ≠ .unknown := by
  unfold arrV
  simp
theorem arrV_ks (c : ClassId) (n : Nat) (f : Nat → Value) : ∀ q, (arrV c n f).vm ≠ .statics q := by
  intro q
  unfold arrV
  simp
def inI (i : Int32) (n : Nat) : Prop := ¬ i < 0 ∧ i.toNatClampNeg < n
theorem inI_not {i : Int32} {n : Nat} (h : inI i n) : ¬ (i < 0 ∨ n ≤ i.toNatClampNeg) := by
  rintro (q | q)
  · exact h.1 q
  · have := h.2
    omega
theorem a_len {p n tt : Nat} {x : Int32} (hC : look C pc = some (.arraylength, np, tgt, w)) (hK : K p = (tt + 2, n)) (htt : Nat.blt tt 4 = true) (hx : nI n = x) (kk : AW S C d Q X k1 k2 np ls (.int x :: st) (K, I, L, R, t)) : AW S C d Q X k1 k2 pc ls (.ref p :: st) (K, I, L, R, t) := by
  intro p' l e s m args below meth c H la locs cells slots mc ms G CC hS hL hR hF h1 h2
  obtain ⟨hd, rfl, -⟩ := okd CC.2.2.2.2.2.2.2.2.2 hC rfl
  have hA := hR.ar hK
  refine W.alen CC.1 CC.2.1 hA ((hS.2.1 tt (Nat.le_of_ble_eq_true htt)).1 _ _) (n := x) ?_ rfl rfl hd ?_
  · rw [arrV_size, ← hx]
    rfl
  · exact kk p' l e s m args below meth c H la locs cells slots mc ms G CC hS hL hR hF h1 h2
theorem a_iald {p n : Nat} {i : Int32} (hC : look C pc = some (.iaload, np, tgt, w)) (hK : K p = (2, n)) (hi : inI i n) (kk : AW S C d Q X k1 k2 np ls (.int (I p i.toNatClampNeg) :: st) (K, I, L, R, t)) : AW S C d Q X k1 k2 pc ls (.int i :: .ref p :: st) (K, I, L, R, t) := by
  intro p' l e s m args below meth c H la locs cells slots mc ms G CC hS hL hR hF h1 h2
  obtain ⟨hd, rfl, -⟩ := okd CC.2.2.2.2.2.2.2.2.2 hC rfl
  have hA := hR.ar (t := 0) hK
  exact W.iald CC.1 CC.2.1 hA ((hS.2.1 0 (by decide)).1 _ _) (arrV_kn _ _ _) (by rw [arrV_size]; exact inI_not hi) (arrV_read _ _ hi.2) rfl rfl hd (kk p' l e s m args below meth c H la locs cells slots mc ms G CC hS hL hR hF h1 h2)
theorem a_bald {p n : Nat} {i : Int32} (hC : look C pc = some (.baload, np, tgt, w)) (hK : K p = (3, n)) (hi : inI i n) (kk : AW S C d Q X k1 k2 np ls (.int (I p i.toNatClampNeg) :: st) (K, I, L, R, t)) : AW S C d Q X k1 k2 pc ls (.int i :: .ref p :: st) (K, I, L, R, t) := by
  intro p' l e s m args below meth c H la locs cells slots mc ms G CC hS hL hR hF h1 h2
  obtain ⟨hd, rfl, -⟩ := okd CC.2.2.2.2.2.2.2.2.2 hC rfl
  have hA := hR.ar (t := 1) hK
  exact W.bald CC.1 CC.2.1 hA ((hS.2.1 1 (by decide)).1 _ _) (arrV_kn _ _ _) (by rw [arrV_size]; exact inI_not hi) (arrV_read _ _ hi.2) rfl rfl hd (kk p' l e s m args below meth c H la locs cells slots mc ms G CC hS hL hR hF h1 h2)
theorem a_lald {p n : Nat} {i : Int32} (hC : look C pc = some (.laload, np, tgt, w)) (hK : K p = (4, n)) (hi : inI i n) (kk : AW S C d Q X k1 k2 np ls (.long (L p i.toNatClampNeg) :: st) (K, I, L, R, t)) : AW S C d Q X k1 k2 pc ls (.int i :: .ref p :: st) (K, I, L, R, t) := by
  intro p' l e s m args below meth c H la locs cells slots mc ms G CC hS hL hR hF h1 h2
  obtain ⟨hd, rfl, -⟩ := okd CC.2.2.2.2.2.2.2.2.2 hC rfl
  have hA := hR.ar (t := 2) hK
  exact W.lald CC.1 CC.2.1 hA ((hS.2.1 2 (by decide)).1 _ _) (arrV_kn _ _ _) (by rw [arrV_size]; exact inI_not hi) (arrV_read _ _ hi.2) rfl rfl hd (kk p' l e s m args below meth c H la locs cells slots mc ms G CC hS hL hR hF h1 h2)
theorem a_aald {p n q : Nat} {i : Int32} (hC : look C pc = some (.aaload, np, tgt, w)) (hK : K p = (5, n)) (hi : inI i n) (hq : R p i.toNatClampNeg = q) (kk : AW S C d Q X k1 k2 np ls (rv q :: st) (K, I, L, R, t)) : AW S C d Q X k1 k2 pc ls (.int i :: .ref p :: st) (K, I, L, R, t) := by
  intro p' l e s m args below meth c H la locs cells slots mc ms G CC hS hL hR hF h1 h2
  obtain ⟨hd, rfl, -⟩ := okd CC.2.2.2.2.2.2.2.2.2 hC rfl
  have hA := hR.ar (t := 3) hK
  refine W.aald CC.1 CC.2.1 hA ((hS.2.1 3 (by decide)).1 _ _) rfl (arrV_kn _ _ _) (by rw [arrV_size]; exact inI_not hi) (arrV_read _ _ hi.2) rfl rfl hd ?_
  show W p' l e _ s m args below meth c H locs cells slots _ (F0 m (pc + 1) la (mv G (rv (R p i.toNatClampNeg)) :: st.map (mv G)))
  rw [hq]
  exact kk p' l e s m args below meth c H la locs cells slots mc ms G CC hS hL hR hF h1 h2
theorem updV_ev2 {G : aG} {I : Nat → Nat → Int32} {L : Nat → Nat → Int64} {R : Nat → Nat → Nat} {p k : Nat} {x : Int32} : updV (fun j => ev G I L R 2 p j) k (.int x) = fun j => ev G (up2 I p k x) L R 2 p j := by
  funext j
  by_cases h : j = k
  · subst h; simp [updV, ev, up2]
  · simp [updV, ev, up2, h]
theorem updV_ev3 {G : aG} {I : Nat → Nat → Int32} {L : Nat → Nat → Int64} {R : Nat → Nat → Nat} {p k : Nat} {x : Int32} : updV (fun j => ev G I L R 3 p j) k (.int x) = fun j => ev G (up2 I p k x) L R 3 p j := by
  funext j
  by_cases h : j = k
  · subst h; simp [updV, ev, up2]
  · simp [updV, ev, up2, h]
theorem updV_ev4 {G : aG} {I : Nat → Nat → Int32} {L : Nat → Nat → Int64} {R : Nat → Nat → Nat} {p k : Nat} {x : Int64} : updV (fun j => ev G I L R 4 p j) k (.long x) = fun j => ev G I (up2 L p k x) R 4 p j := by
  funext j
  by_cases h : j = k
  · subst h; simp [updV, ev, up2]
  · simp [updV, ev, up2, h]
theorem updV_ev5 {G : aG} {I : Nat → Nat → Int32} {L : Nat → Nat → Int64} {R : Nat → Nat → Nat} {p k q : Nat} : updV (fun j => ev G I L R 5 p j) k (mv G (rv q)) = fun j => ev G I L (up2 R p k q) 5 p j := by
  funext j
  by_cases h : j = k
  · subst h; simp [updV, ev, up2]
  · simp [updV, ev, up2, h]
theorem a_iast {p n : Nat} {i x : Int32} (hC : look C pc = some (.iastore, np, tgt, w)) (hK : K p = (2, n)) (hi : inI i n) (kk : AW S C d Q X k1 k2 np ls st (K, up2 I p i.toNatClampNeg x, L, R, t)) : AW S C d Q X k1 k2 pc ls (.int x :: .int i :: .ref p :: st) (K, I, L, R, t) := by
  intro p' l e s m args below meth c H la locs cells slots mc ms G CC hS hL hR hF h1 h2
  obtain ⟨hd, rfl, -⟩ := okd CC.2.2.2.2.2.2.2.2.2 hC rfl
  have hA := hR.ar (t := 0) hK
  have hp : 200 ≤ p := hR.2.1 p (by show (K p).1 ≠ 0; rw [hK]; simp)
  refine W.iast CC.1 CC.2.1 hA ((hS.2.1 0 (by decide)).1 _ _) (arrV_kn _ _ _) (by rw [arrV_size]; exact inI_not hi) rfl rfl hd (fun H' e1 e2 e3 => ?_)
  refine kk p' l e s m args below meth c H' la _ cells slots mc ms G CC hS hL (Rep.set hR hp (fun q hq => up2_row hq) (fun _ _ => rfl) (fun _ _ => rfl) e2 e3 ?_) (hF.put e2 e3 (aA_ad hp)) h1 h2
  show cellA G (K, up2 I p i.toNatClampNeg x, L, R, t) H' p
  unfold cellA
  dsimp only
  rw [hK]
  show H'[ad G p]? = some (arrV _ n _)
  rw [e1, arrV_store, updV_ev2]
theorem a_bast {p n : Nat} {i x : Int32} (hC : look C pc = some (.bastore, np, tgt, w)) (hK : K p = (3, n)) (hi : inI i n) (hx : x.toInt8.toInt32 = x) (kk : AW S C d Q X k1 k2 np ls st (K, up2 I p i.toNatClampNeg x, L, R, t)) : AW S C d Q X k1 k2 pc ls (.int x :: .int i :: .ref p :: st) (K, I, L, R, t) := by
  intro p' l e s m args below meth c H la locs cells slots mc ms G CC hS hL hR hF h1 h2
  obtain ⟨hd, rfl, -⟩ := okd CC.2.2.2.2.2.2.2.2.2 hC rfl
  have hA := hR.ar (t := 1) hK
  have hp : 200 ≤ p := hR.2.1 p (by show (K p).1 ≠ 0; rw [hK]; simp)
  have hnx : narrow .byte (.int x) = .int x := by show Value.int x.toInt8.toInt32 = _; rw [hx]
  refine W.bast CC.1 CC.2.1 hA ((hS.2.1 1 (by decide)).1 _ _) (arrV_kn _ _ _) (by rw [arrV_size]; exact inI_not hi) rfl rfl hd (fun H' e1 e2 e3 => ?_)
  refine kk p' l e s m args below meth c H' la _ cells slots mc ms G CC hS hL (Rep.set hR hp (fun q hq => up2_row hq) (fun _ _ => rfl) (fun _ _ => rfl) e2 e3 ?_) (hF.put e2 e3 (aA_ad hp)) h1 h2
  show cellA G (K, up2 I p i.toNatClampNeg x, L, R, t) H' p
  unfold cellA
  dsimp only
  rw [hK]
  show H'[ad G p]? = some (arrV _ n _)
  rw [e1, hnx, arrV_store, updV_ev3]
theorem a_last {p n : Nat} {i : Int32} {x : Int64} (hC : look C pc = some (.lastore, np, tgt, w)) (hK : K p = (4, n)) (hi : inI i n) (kk : AW S C d Q X k1 k2 np ls st (K, I, up2 L p i.toNatClampNeg x, R, t)) : AW S C d Q X k1 k2 pc ls (.long x :: .int i :: .ref p :: st) (K, I, L, R, t) := by
  intro p' l e s m args below meth c H la locs cells slots mc ms G CC hS hL hR hF h1 h2
  obtain ⟨hd, rfl, -⟩ := okd CC.2.2.2.2.2.2.2.2.2 hC rfl
  have hA := hR.ar (t := 2) hK
  have hp : 200 ≤ p := hR.2.1 p (by show (K p).1 ≠ 0; rw [hK]; simp)
  refine W.last CC.1 CC.2.1 hA ((hS.2.1 2 (by decide)).1 _ _) (arrV_kn _ _ _) (by rw [arrV_size]; exact inI_not hi) rfl rfl hd (fun H' e1 e2 e3 => ?_)
  refine kk p' l e s m args below meth c H' la _ cells slots mc ms G CC hS hL (Rep.set hR hp (fun _ _ => rfl) (fun q hq => up2_row hq) (fun _ _ => rfl) e2 e3 ?_) (hF.put e2 e3 (aA_ad hp)) h1 h2
  show cellA G (K, I, up2 L p i.toNatClampNeg x, R, t) H' p
  unfold cellA
  dsimp only
  rw [hK]
  show H'[ad G p]? = some (arrV _ n _)
  rw [e1, arrV_store, updV_ev4]
/-- an array of streets takes a street -/
theorem a_aast {p n q : Nat} {i : Int32} (hC : look C pc = some (.aastore, np, tgt, w)) (hK : K p = (5, n)) (hKq : K q = (1, 5)) (hi : inI i n) (kk : AW S C d Q X k1 k2 np ls st (K, I, L, up2 R p i.toNatClampNeg (q + 1), t)) : AW S C d Q X k1 k2 pc ls (.ref q :: .int i :: .ref p :: st) (K, I, L, R, t) := by
  intro p' l e s m args below meth c H la locs cells slots mc ms G CC hS hL hR hF h1 h2
  obtain ⟨hd, rfl, -⟩ := okd CC.2.2.2.2.2.2.2.2.2 hC rfl
  have hA := hR.ar (t := 3) hK
  have hp : 200 ≤ p := hR.2.1 p (by show (K p).1 ≠ 0; rw [hK]; simp)
  obtain ⟨r, hr, cell, q1, q2, q3, q4⟩ := hR.ob hKq
  obtain ⟨-, hfc, kC, hkC, -⟩ := hS.1 5 r hr
  obtain ⟨kA, comp, a1, a2, a3, a4⟩ := (hS.2.1 3 (by decide)).2
  have hcc : comp = G.1.1 5 := by
    cases hr
    exact Option.some.inj (a3.symm.trans hfc)
  subst hcc
  refine W.aast CC.1 CC.2.1 hA (arrV_ks _ _ _) (arrV_kn _ _ _) a1 a2 rfl hkC ⟨hi.1, by rw [arrV_size]; exact hi.2⟩ q1 (fun z => by rw [q3]; simp) (by rw [q2]; exact hkC) (by rw [q2]; exact va_asg _ _) rfl rfl hd (fun H' e1 e2 e3 => ?_)
  refine kk p' l e s m args below meth c H' la _ cells slots mc ms G CC hS hL (Rep.set hR hp (fun _ _ => rfl) (fun _ _ => rfl) (fun q hq => up2_row hq) e2 e3 ?_) (hF.put e2 e3 (aA_ad hp)) h1 h2
  show cellA G (K, I, L, up2 R p i.toNatClampNeg (q + 1), t) H' p
  unfold cellA
  dsimp only
  rw [hK]
  show H'[ad G p]? = some (arrV _ n _)
  rw [e1, arrV_store, ← updV_ev5]
  rfl
/-! answers -/
theorem a_iret {x : Int32} (hC : look C pc = some (.ireturn, np, tgt, w)) (hr : C.2.2.2.1 = some .int) (hQ : Q (some (.int x)) h) : AW S C d Q X k1 k2 pc ls [.int x] h := by
  intro p' l e s m args below meth c H la locs cells slots mc ms G CC hS hL hR hF h1 h2
  obtain ⟨hd, rfl, -⟩ := okd CC.2.2.2.2.2.2.2.2.2 hC rfl
  have hlk := CC.2.2.2.1
  refine vx_ret (W.widen (k := mc) (n := ms) (by omega) (by omega) (W.iret CC.1 CC.2.1 (CC.2.2.1.trans hr) (fun t ht hW => ⟨some (.int x), h, rfl, hQ, by rw [ht]; exact hR, hF.F ht⟩) hF.2.2 hd hlk))
theorem a_zret {x : Int32} (hC : look C pc = some (.ireturn, np, tgt, w)) (hr : C.2.2.2.1 = some .boolean) (hx : narrow .boolean (.int x) = .int x) (hQ : Q (some (.int x)) h) : AW S C d Q X k1 k2 pc ls [.int x] h := by
  intro p' l e s m args below meth c H la locs cells slots mc ms G CC hS hL hR hF h1 h2
  obtain ⟨hd, rfl, -⟩ := okd CC.2.2.2.2.2.2.2.2.2 hC rfl
  have hlk := CC.2.2.2.1
  refine vx_ret (W.widen (k := mc) (n := ms) (by omega) (by omega) (W.zret CC.1 CC.2.1 (CC.2.2.1.trans hr) hx (fun t ht hW => ⟨some (.int x), h, rfl, hQ, by rw [ht]; exact hR, hF.F ht⟩) hF.2.2 hd hlk))
theorem a_cret {x : Int32} (hC : look C pc = some (.ireturn, np, tgt, w)) (hr : C.2.2.2.1 = some .char) (hx : narrow .char (.int x) = .int x) (hQ : Q (some (.int x)) h) : AW S C d Q X k1 k2 pc ls [.int x] h := by
  intro p' l e s m args below meth c H la locs cells slots mc ms G CC hS hL hR hF h1 h2
  obtain ⟨hd, rfl, -⟩ := okd CC.2.2.2.2.2.2.2.2.2 hC rfl
  have hlk := CC.2.2.2.1
  refine vx_ret (W.widen (k := mc) (n := ms) (by omega) (by omega) (W.zret CC.1 CC.2.1 (CC.2.2.1.trans hr) hx (fun t ht hW => ⟨some (.int x), h, rfl, hQ, by rw [ht]; exact hR, hF.F ht⟩) hF.2.2 hd hlk))
theorem a_lret {x : Int64} (hC : look C pc = some (.lreturn, np, tgt, w)) (hr : C.2.2.2.1 = some .long) (hQ : Q (some (.long x)) h) : AW S C d Q X k1 k2 pc ls [.long x] h := by
  intro p' l e s m args below meth c H la locs cells slots mc ms G CC hS hL hR hF h1 h2
  obtain ⟨hd, rfl, -⟩ := okd CC.2.2.2.2.2.2.2.2.2 hC rfl
  have hlk := CC.2.2.2.1
  refine vx_ret (W.widen (k := mc) (n := ms) (by omega) (by omega) (W.lret CC.1 CC.2.1 (CC.2.2.1.trans hr) (fun t ht hW => ⟨some (.long x), h, rfl, hQ, by rw [ht]; exact hR, hF.F ht⟩) hF.2.2 hd hlk))
theorem a_vret (hC : look C pc = some (.return_, np, tgt, w)) (hr : C.2.2.2.1 = none) (hQ : Q none h) : AW S C d Q X k1 k2 pc ls [] h := by
  intro p' l e s m args below meth c H la locs cells slots mc ms G CC hS hL hR hF h1 h2
  obtain ⟨hd, rfl, -⟩ := okd CC.2.2.2.2.2.2.2.2.2 hC rfl
  have hlk := CC.2.2.2.1
  refine vx_ret (W.widen (k := mc) (n := ms) (by omega) (by omega) (W.vret CC.1 CC.2.1 (CC.2.2.1.trans hr) (fun t ht hW => ⟨none, h, rfl, hQ, by rw [ht]; exact hR, hF.F ht⟩) hF.2.2 hd hlk))
theorem a_aret {q : Nat} {rt : FieldType} (hC : look C pc = some (.areturn, np, tgt, w)) (hr : C.2.2.2.1 = some rt) (hrt : isRefTy rt = true) (hQ : Q (some (rv q)) h) : AW S C d Q X k1 k2 pc ls [rv q] h := by
  intro p' l e s m args below meth c H la locs cells slots mc ms G CC hS hL hR hF h1 h2
  obtain ⟨hd, rfl, -⟩ := okd CC.2.2.2.2.2.2.2.2.2 hC rfl
  have hlk := CC.2.2.2.1
  refine vx_ret (W.widen (k := mc) (n := ms) (by omega) (by omega) (W.aret CC.1 CC.2.1 (CC.2.2.1.trans hr) ?_ (mv_rv_or G q) (fun t ht hW => ⟨some (rv q), h, rfl, hQ, by rw [ht]; exact hR, hF.F ht⟩) hF.2.2 hd hlk))
  cases rt <;> first | (cases hrt; done) | exact Or.inl ⟨_, rfl⟩ | exact Or.inr ⟨_, rfl⟩
end A7
end
section
/-! ===== the rules of AW: a method's contract, calls ===== -/
theorem Rep.frames {G : aG} {h : aH} {U : State} (a : Array Value) (g : JFrame) (mk : MethodId) (hR : Rep G h U.heap) : Rep G h (U.calling g mk a).heap := hR
theorem SW.frames {S : aS} {G : aG} {U : State} (a : Array Value) (g : JFrame) (mk : MethodId) (h : SW S G U) : SW S G (U.calling g mk a) := SW.go (U := U.calling g mk a) (State.WarmedH.refl U) (fun _ _ _ => rfl) h
theorem PcM.blind {S : aS} {G : aG} {args : List Value} {h : aH} : FrameBlind (PcM S G args h) := fun a U g mk q => ⟨q.1, Rep.frames a g mk q.2.1, SW.frames a g mk q.2.2⟩
def entL (args : List Value) (n : Nat) : List (Option Value) := args.map some ++ List.replicate (n - args.length) none
theorem lg_app {l r : List (Option Value)} {i : Nat} {v : Value} (h : lg (l ++ r) i = some v) (hr : ∀ j, lg r j = none) : lg l i = some v := by
  induction l generalizing i with
  | nil => rw [List.nil_append, hr] at h; cases h
  | cons a l ih =>
    rcases i with _ | i
    · exact h
    · exact ih h
theorem lg_none (n : Nat) : ∀ j, lg (List.replicate n (none : Option Value)) j = none := by
  induction n with
  | zero => intro j; rfl
  | succ n ih =>
    intro j
    rw [List.replicate_succ]
    rcases j with _ | j
    · rfl
    · exact ih j
theorem lg_args {G : aG} {args : List Value} (hc : ∀ v ∈ args, v.category = 1) {i n : Nat} {v : Value} (h : lg (args.map some) i = some v) : (n + i, mv G v) ∈ lv_args n (args.map (mv G)) := by
  induction args generalizing i n with
  | nil => simp [lg] at h
  | cons a r ih =>
    have h1 : (mv G a).category = 1 := (mv_cat G a).trans (hc a List.mem_cons_self)
    simp only [List.map_cons, lv_args]
    rw [if_neg (by omega)]
    rcases i with _ | i
    · simp only [List.map_cons, lg] at h
      cases h
      exact List.mem_cons_self
    · have := ih (fun v hv => hc v (List.mem_cons_of_mem _ hv)) (n := n + 1) h
      rw [show n + 1 + i = n + (i + 1) by omega] at this
      exact List.mem_cons_of_mem _ this
theorem sl_len {G : aG} {args : List Value} (hc : ∀ v ∈ args, v.category = 1) : (lg_sl (args.map (mv G))).length = args.length := by
  induction args with
  | nil => rfl
  | cons a r ih =>
    have h1 : ¬ (mv G a).category = 2 := by rw [mv_cat, hc a List.mem_cons_self]; decide
    have := ih (fun v hv => hc v (List.mem_cons_of_mem _ hv))
    unfold lg_sl at this ⊢
    rw [List.map_cons, List.flatMap_cons, if_neg h1]
    simp [this]
/-- THE CONTRACT OUT OF THE JUDGEMENT -/
theorem Sp_of {S : aS} {C : aM} {d k1 k2 : Nat} {args : List Value} {h : aH} {Q : Option Value → aH → Prop} {X : String → aH → Prop} (hO : okM C = true) (hc : args.all (fun v => v.category == 1) = true) (hn : Nat.ble args.length C.2.2.1 = true)
    (k : AW S C d Q X k1 k2 0 (entL args C.2.2.1) [] h) : Sp S C d k1 k2 args h Q X := by
  intro l G hl
  obtain ⟨hpl, hok⟩ : plainName C.1.cls = true ∧ C.2.2.2.2.2.all (fun r => r.all (okE C)) = true := by
    simpa [okM, Bool.and_eq_true] using hO
  have hc' : ∀ v ∈ args, v.category = 1 := fun v hv => by simpa using List.all_eq_true.mp hc v hv
  have hn' := Nat.le_of_ble_eq_true hn
  have body : ∀ (p : Program) (e : Env) (s : State) (m : MethodId) (av : Array Value) (below : List Frame) (meth : Method) (c : Code) (s₁ : State), BodyLoose p l C.1 (headSpec [mW C] (rmD d k1 k2)) C.2.1 C.2.2.1 C.2.2.2.1 e s m av below meth c s₁ → c.maxLocals = C.2.2.1 → c.exceptionTable.toList = tableOf C.2.2.2.2.1 → PcM S G args h av s →
      W p l e (headSpec [mW C] (rmD d k1 k2)).room s m av below meth c s.heap [] 0 0 (vx_MQ below (QcM G Q) (XcM G X) av s k1 k2 (aA G)) (entryFrame m av C.2.2.1) := by
    intro p e s m av below meth c s₁ B hml htab hP
    obtain ⟨rfl, hR, hS⟩ := hP
    rw [lg_entry_eq]
    have hl0 := lv_entry (args.map (mv G)) (n := C.2.2.1) (by rw [sl_len hc']; exact hn')
    refine k p l e s m _ below meth c s.heap _ [] 0 0 k1 k2 G ⟨B.exec, B.bytes, B.returns, B.notSynchronized, hml, findClass_of_methodNamed B.named, (name_of_methodNamed B.named B.method).1, hl, htab, okM_of hok⟩ hS ⟨hl0.1, hl0.2.1, fun i v hi => ?_⟩ hR va_S.rf (by omega) (by omega)
    have h1 := lg_app hi (lg_none _)
    have h2 := hl0.2.2 _ (lg_args (n := 0) hc' h1)
    simpa using h2
  by_cases hh : C.2.2.2.2.1 = []
  · refine vx_ofW (cc := C.2.1) (maxL := C.2.2.1) (ret := C.2.2.2.1) (ws' := []) hpl (by unfold mW; rw [hh]) ?_
    intro p e s m av below meth c s₁ B hml ht hP
    refine body p e s m av below meth c s₁ B hml ?_ hP
    rw [hh]
    exact List.eq_nil_iff_forall_not_mem.mpr ht
  · have hw : mW C = .codeWith C.1 C.2.1 C.2.2.1 C.2.2.2.1 C.2.2.2.2.1 := by
      unfold mW
      split
      · next z => exact absurd z hh
      · rfl
    refine vx_ofWH (cc := C.2.1) (maxL := C.2.2.1) (ret := C.2.2.2.1) (hh := C.2.2.2.2.1) (ws' := []) hpl (by rw [hw]) ?_
    intro p e s m av below meth c s₁ B hml hP
    exact body p e s m av below meth c s₁ B hml (vx_table (x := C.1) B (atoms_spec (ws := [mW C]) B.pre _ (by rw [hw]; exact List.mem_cons_self))) hP
theorem Sp.mono {S : aS} {C : aM} {d k1 k2 : Nat} {args : List Value} {h : aH} {Q Q' : Option Value → aH → Prop} {X X' : String → aH → Prop} (hs : Sp S C d k1 k2 args h Q X) (hQ : ∀ v h', Q v h' → Q' v h') (hX : ∀ E h', X E h' → X' E h') : Sp S C d k1 k2 args h Q' X' := by
  intro l G hl p e ha hc hk s m av below hf hP hK hp
  have := hs l G hl p e ha hc hk s m av below hf hP hK hp
  obtain ⟨k, o, h1, h2, h3, h4⟩ := this
  refine ⟨k, o, h1, h2, h3, ?_⟩
  rcases h4 with ⟨⟨v, h', e1, e2, e3⟩, hL⟩ | ⟨q, e1, E, ce, L, ⟨h', x1, x2⟩, hr⟩
  · exact Or.inl ⟨⟨v, h', e1, hQ _ _ e2, e3⟩, hL⟩
  · exact Or.inr ⟨q, e1, E, ce, L, ⟨h', hX _ _ x1, x2⟩, hr⟩
section A8
variable {p : Program} {l : Launch} {e : Env} {R : Room} {s : State} {m : MethodId} {args : Array Value} {below : List Frame} {meth : Method} {c : Code} {H : Heap} {locs : List Loc} {cells slots : Nat} {QW : State → Prop}
/-- behind a call -/
theorem go_run {G : aG} {Q' : Option Value → aH → Prop} {X' : String → aH → Prop} {j1 j2 pc : Nat} {la : Array Slot} {st0 rest : List Value} {a : Array Value}
    (hr : vx_Run p l e R s m args below meth c H locs cells slots j1 j2 (F0 m pc la st0) rest (QcM G Q' a) (XcM G X') (aA G)) (hF : va_S (aA G) s.heap H locs)
    (kr : ∀ v h' H' locs', Q' v h' → Rep G h' H' → va_S (aA G) s.heap H' locs' → W p l e R s m args below meth c H' locs' (cells + j1) (slots + j2) QW (F0 m (pc + 3) la ((Option.map (mv G) v).toList ++ rest)))
    (kx : ∀ E h' q ce H' locs', X' E h' → Rep G h' H' → va_S (aA G) s.heap H' locs' → H'[q]? = some ce → ce.vm = .none → s.vm.findClass E = some ce.cls → vx_W p l e R s m args below meth c H' locs' (cells + j1) (slots + j2) QW (F0 m pc la rest) q) :
    W p l e R s m args below meth c H locs cells slots QW (F0 m pc la st0) := by
  intro T hT X
  have keep : ∀ {st₀ t T' : State} {L : List Loc}, st₀.heap = H → T'.heap = t.heap → va_F (aA G) st₀ t → (∀ q ∈ L, aA G q.base) → va_S (aA G) s.heap T'.heap (locs ++ L) := by
    intro st₀ t T' L h0 e1 hf hL
    exact (vx_keep h0 e1 hF (fun _ _ z => z) (fun _ z => z) hL hf).2.2
  rcases hr T hT X with ⟨v, st₀, t, T', L, h0, X', hL, e1, e2, ⟨v', h', q1, q2, q3, q4⟩, st⟩ | ⟨q, st₀, t, T', L, E, ce, h0, X', hL, e1, e2, ⟨h', q2, q3, q4⟩, hce, hcv, hcl, st⟩
  · cases q1
    obtain ⟨t2, a1, b1⟩ := kr v' h' T'.heap (locs ++ L) q2 (by rw [e1]; exact q3) (keep h0 e1 q4 hL) T' rfl X'
    exact ⟨t2, st t2 a1, b1⟩
  · obtain ⟨t2, a1, b1⟩ := kx E h' q ce T'.heap (locs ++ L) q2 (by rw [e1]; exact q3) (keep h0 e1 q4 hL) (by rw [e1]; exact hce) hcv hcl T' rfl X'
    exact ⟨t2, st.trans a1, b1⟩
end A8
/-- the good words of the tables -/
def gT : List Cond := lw_tbl.filter goodWord
theorem gT_ok {S : aS} {G : aG} {s : State} {args : Array Value} (hS : SW S G s) : ∀ w ∈ gT, w.before args s = true := fun w hw => by
  obtain ⟨h1, h2⟩ := List.mem_filter.mp hw
  exact hS.2.2.1 w h1 (by rw [h2]; rfl) args
theorem inT_gT {w : Cond} (h : inT w) : w ∈ gT := List.mem_filter.mpr h
theorem good_gT {ws : List Cond} (h : ∀ w ∈ ws, inT w) : GoodIn gT ws := fun w hw => ⟨inT_gT (h w hw), good_of_word (h w hw).2⟩
theorem mW_code {C : aM} (h : C.2.2.2.2.1 = []) : mW C = .code C.1 C.2.1 C.2.2.1 C.2.2.2.1 := by unfold mW; rw [h]
theorem mW_codeW {C : aM} (h : C.2.2.2.2.1 ≠ []) : mW C = .codeWith C.1 C.2.1 C.2.2.1 C.2.2.2.1 C.2.2.2.2.1 := by
  unfold mW
  split
  · next z => exact absurd z h
  · rfl
theorem MO.ws {C : aM} {n : Nat} (h : MO C n) : ∀ w ∈ [mW C], inT w := fun w hw => by
  rw [mW_code h.1, List.mem_singleton] at hw
  subst hw
  exact h.2.1
section A9
variable {S : aS} {C C' : aM} {d d' : Nat} {Q Q' : Option Value → aH → Prop} {X X' : String → aH → Prop} {k1 k2 j1 j2 pc np tgt n : Nat} {w : Int32} {ls ls' : List (Option Value)} {st st' st0 : List Value} {h : aH} {ins : Instr} {As : List Value}
/-- what a call asks of the room: d' + 1 ≤ d, and of the stack below -/
def cOk (d d' j1 j2 k1 k2 : Nat) (st : List Value) : Bool := Nat.ble (d' + 1) d && (Nat.ble j1 k1 && (Nat.ble j2 k2 && Nat.ble (st.map fun v => v.category).sum 8))
theorem cOk_spec {d d' j1 j2 k1 k2 : Nat} {st : List Value} (h : cOk d d' j1 j2 k1 k2 st = true) : d' + 1 ≤ d ∧ j1 ≤ k1 ∧ j2 ≤ k2 ∧ (st.map fun v => v.category).sum ≤ 8 := by
  simp only [cOk, Bool.and_eq_true] at h
  exact ⟨Nat.le_of_ble_eq_true h.1, Nat.le_of_ble_eq_true h.2.1, Nat.le_of_ble_eq_true h.2.2.1, Nat.le_of_ble_eq_true h.2.2.2⟩
theorem cat_map (G : aG) (st : List Value) : ((st.map (mv G)).map fun v => v.category).sum = (st.map fun v => v.category).sum := by
  rw [List.map_map]
  congr 1
  exact List.map_congr_left fun v _ => mv_cat G v
/-- thrown through a method without handlers -/
theorem go_out {p : Program} {l : Launch} {e : Env} {s : State} {m : MethodId} {args : Array Value} {below : List Frame} {meth : Method} {c : Code} {H' : Heap} {la : Array Slot} {locs' : List Loc} {cells slots mc ms : Nat} {G : aG} {E : String} {h' : aH} {q : Addr} {ce : Cell} {rest : List Value}
    (CC : CX C l p s m meth c) (hh : C.2.2.2.2.1 = []) (hX : X E h') (hR : Rep G h' H') (hF : va_S (aA G) s.heap H' locs') (hce : H'[q]? = some ce) (hcv : ce.vm = .none) (hcl : s.vm.findClass E = some ce.cls) (h1 : cells ≤ mc) (h2 : slots ≤ ms) :
    vx_W p l e (rmD d mc ms) s m args below meth c H' locs' cells slots (vx_MQ below (QcM G Q) (XcM G X) args s mc ms (aA G)) (F0 m pc la rest) q :=
  vx_out (fun x hx => by rw [CC.2.2.2.2.2.2.2.2.1, hh] at hx; cases hx) CC.2.2.2.1 hce hcv hcl (fun t ht hA => ⟨h', hX, by rw [ht]; exact hR, hF.F ht⟩) hF.2.2 h1 h2
/-- the words of a call of a method known by its callers -/
theorem cb_of {own : String} {idx : Nat} {s : State} {args : Array Value} {mc ms : Nat} {G : aG} (hS : SW S G s) (hM : MO C' n) (hl : inT (.methodLink own idx C'.1)) (hd : d' + 1 ≤ d) :
    CallB (rmD d mc ms) s args own idx C'.1 C'.2.1 C'.2.2.1 C'.2.2.2.1 [mW C'] (rmD d' j1 j2) j1 j2 n := by
  have := hM.2.2.2.2
  refine callB_of (Ts := gT) (ws' := []) n (gT_ok hS) (good_gT hM.ws) (by rw [mW_code hM.1]) rfl rfl (gT_ok hS _ (inT_gT hM.2.2.1)) (gT_ok hS _ (inT_gT hl)) hM.2.2.2.1 ⟨by show d' + 998 + 1 ≤ d + 998; omega, ?_⟩
  show 8 + (C'.2.2.1 + 11) + 80 * d' ≤ 80 * d
  omega
theorem cn_of {own host : String} {idx : Nat} {s : State} {args : Array Value} {mc ms : Nat} {G : aG} (hS : SW S G s) (hM : MO C' n) (hl : Cond.methodLinkNest own idx C'.1 host ∈ lw_tbl) (hd : d' + 1 ≤ d) :
    va_CN (rmD d mc ms) s args own idx C'.1 host C'.2.1 C'.2.2.1 C'.2.2.2.1 [mW C'] (rmD d' j1 j2) j1 j2 n := by
  have := hM.2.2.2.2
  refine va_cnB (Ts := gT) (ws' := []) n (gT_ok hS) (good_gT hM.ws) (by rw [mW_code hM.1]) rfl rfl (va_Nw.of rfl (hS.2.2.1 _ hl (by simp [isNest]) #[])) (gT_ok hS _ (inT_gT hM.2.2.1)) hM.2.2.2.1 ⟨by show d' + 998 + 1 ≤ d + 998; omega, ?_⟩
  show 8 + (C'.2.2.1 + 11) + 80 * d' ≤ 80 * d
  omega
theorem pc_of {s : State} {H : Heap} {G : aG} (hS : SW S G s) (hR : Rep G h H) {locs : List Loc} (hF : va_S (aA G) s.heap H locs) : ∀ U : State, U.heap = H → s.WarmedH U.vm → PcM S G As h (As.map (mv G)).toArray U := fun U hU hW => ⟨rfl, by rw [hU]; exact hR, SW.go hW (fun q hq hn => by rw [hU]; exact hF.2.1 q hq hn) hS⟩
/-- the receiver's class -/
def rcv (h : aH) (q : Nat) (cn : String) : Prop := ∃ ci r, h.1 q = (1, ci) ∧ aC[ci]? = some r ∧ r.1.1 = cn
theorem rcv_of {s : State} {H : Heap} {G : aG} {q : Nat} {cn : String} (hS : SW S G s) (hR : Rep G h H) (hq : rcv h q cn) : ∃ cellB : Cell, H[ad G q]? = some cellB ∧ cellB.vm.isStatics = false ∧ s.vm.findClass cn = some cellB.cls := by
  obtain ⟨ci, r, hK, hr, rfl⟩ := hq
  obtain ⟨r', hr', cell, q1, q2, q3, q4⟩ := hR.ob hK
  cases hr.symm.trans hr'
  exact ⟨cell, q1, by rw [q3]; rfl, by rw [q2]; exact (hS.1 ci r hr).2.1⟩
/-- a call's end, for all kinds -/
theorem a_end {p : Program} {l : Launch} {e : Env} {s : State} {m : MethodId} {args : Array Value} {below : List Frame} {meth : Method} {c : Code} {H : Heap} {la : Array Slot} {locs : List Loc} {cells slots mc ms : Nat} {G : aG} {a : Array Value} {stm : List Value}
    (CC : CX C l p s m meth c) (hS : SW S G s) (hL : HL G la C.2.2.1 ls) (hF : va_S (aA G) s.heap H locs) (h1 : cells + k1 ≤ mc) (h2 : slots + k2 ≤ ms) (g1 : j1 ≤ k1) (g2 : j2 ≤ k2) (hh : C.2.2.2.2.1 = [])
    (hr : vx_Run p l e (rmD d mc ms) s m args below meth c H locs cells slots j1 j2 (F0 m pc la stm) (st.map (mv G)) (QcM G Q' a) (XcM G X') (aA G))
    (kr : ∀ v h', Q' v h' → AW S C d Q X (k1 - j1) (k2 - j2) (pc + 3) ls (v.toList ++ st) h') (kx : ∀ E h', X' E h' → X E h') :
    W p l e (rmD d mc ms) s m args below meth c H locs cells slots (vx_MQ below (QcM G Q) (XcM G X) args s mc ms (aA G)) (F0 m pc la stm) := by
  refine go_run hr hF (fun v h' H' locs' q1 q2 q3 => ?_) (fun E h' q ce H' locs' q1 q2 q3 q4 q5 q6 => go_out CC hh (kx _ _ q1) q2 q3 q4 q5 q6 (by omega) (by omega))
  have K := kr v h' q1 p l e s m args below meth c H' la locs' (cells + j1) (slots + j2) mc ms G CC hS hL q2 q3 (by omega) (by omega)
  have e1 : (v.toList ++ st).map (mv G) = (Option.map (mv G) v).toList ++ st.map (mv G) := by cases v <;> simp
  rw [e1] at K
  exact K
theorem a_callV {idx q : Nat} (hC : look C pc = some (.invokevirtual idx, np, tgt, w)) (hl : LK C.1.cls idx C') (hM : MOv C' n) (hs : Sp S C' d' j1 j2 (.ref q :: As) h Q' X') (hn : As.length = n) (h0 : st0 = As.reverse ++ .ref q :: st) (ho : cOk d d' j1 j2 k1 k2 st = true) (hq : rcv h q C'.1.cls) (hh : C.2.2.2.2.1 = [])
    (kr : ∀ v h', Q' v h' → AW S C d Q X (k1 - j1) (k2 - j2) np ls (v.toList ++ st) h') (kx : ∀ E h', X' E h' → X E h') : AW S C d Q X k1 k2 pc ls st0 h := by
  intro p l e s m args below meth c H la locs cells slots mc ms G CC hS hL hR hF h1 h2
  obtain ⟨hd, rfl, -⟩ := okd CC.2.2.2.2.2.2.2.2.2 hC rfl
  obtain ⟨g0, g1, g2, g3⟩ := cOk_spec ho
  subst h0
  refine a_end CC hS hL hF h1 h2 g1 g2 hh (vx_runV (Ts := gT) (As := As.map (mv G)) (b := ad G q) ⟨CC.1, CC.2.1, CC.2.2.2.2.1, CC.2.2.2.2.2.1, gT_ok hS⟩ (hs l G CC.2.2.2.2.2.2.2.1) ⟨cb_of hS hM.1 hl g0, gT_ok hS _ (inT_gT hM.2.1), gT_ok hS _ (inT_gT hM.2.2)⟩ ⟨PcM.blind, rcv_of hS hR hq, pc_of (As := .ref q :: As) hS hR hF⟩ rfl (by simpa using hn) hL.1 (by simp [mv]) (lv_room (by rw [cat_map]; exact g3)) hd ⟨by show cells + j1 ≤ mc; omega, by show slots + j2 ≤ ms; omega⟩) kr kx
theorem a_callN {idx q : Nat} (hC : look C pc = some (.invokevirtual idx, np, tgt, w)) (hl : LKn C.1.cls idx C') (hM : MOv C' n) (hs : Sp S C' d' j1 j2 (.ref q :: As) h Q' X') (hn : As.length = n) (h0 : st0 = As.reverse ++ .ref q :: st) (ho : cOk d d' j1 j2 k1 k2 st = true) (hq : rcv h q C'.1.cls) (hh : C.2.2.2.2.1 = [])
    (kr : ∀ v h', Q' v h' → AW S C d Q X (k1 - j1) (k2 - j2) np ls (v.toList ++ st) h') (kx : ∀ E h', X' E h' → X E h') : AW S C d Q X k1 k2 pc ls st0 h := by
  intro p l e s m args below meth c H la locs cells slots mc ms G CC hS hL hR hF h1 h2
  obtain ⟨hd, rfl, -⟩ := okd CC.2.2.2.2.2.2.2.2.2 hC rfl
  obtain ⟨g0, g1, g2, g3⟩ := cOk_spec ho
  subst h0
  obtain ⟨host, hl⟩ := hl
  refine a_end CC hS hL hF h1 h2 g1 g2 hh (vx_runVN (Ts := gT) (As := As.map (mv G)) (b := ad G q) ⟨CC.1, CC.2.1, CC.2.2.2.2.1, CC.2.2.2.2.2.1, gT_ok hS⟩ (hs l G CC.2.2.2.2.2.2.2.1) ⟨cn_of hS hM.1 hl g0, gT_ok hS _ (inT_gT hM.2.1), gT_ok hS _ (inT_gT hM.2.2)⟩ ⟨PcM.blind, rcv_of hS hR hq, pc_of (As := .ref q :: As) hS hR hF⟩ rfl (by simpa using hn) hL.1 (by simp [mv]) (lv_room (by rw [cat_map]; exact g3)) hd ⟨by show cells + j1 ≤ mc; omega, by show slots + j2 ≤ ms; omega⟩) kr kx
theorem a_callS {idx : Nat} (hC : look C pc = some (.invokestatic idx, np, tgt, w)) (hl : LK C.1.cls idx C') (hM : MOs C' n) (hs : Sp S C' d' j1 j2 As h Q' X') (hn : As.length = n) (h0 : st0 = As.reverse ++ st) (ho : cOk d d' j1 j2 k1 k2 st = true) (hh : C.2.2.2.2.1 = [])
    (kr : ∀ v h', Q' v h' → AW S C d Q X (k1 - j1) (k2 - j2) np ls (v.toList ++ st) h') (kx : ∀ E h', X' E h' → X E h') : AW S C d Q X k1 k2 pc ls st0 h := by
  intro p l e s m args below meth c H la locs cells slots mc ms G CC hS hL hR hF h1 h2
  obtain ⟨hd, rfl, -⟩ := okd CC.2.2.2.2.2.2.2.2.2 hC rfl
  obtain ⟨g0, g1, g2, g3⟩ := cOk_spec ho
  subst h0
  refine a_end CC hS hL hF h1 h2 g1 g2 hh (vx_runS (Ts := gT) (As := As.map (mv G)) ⟨CC.1, CC.2.1, CC.2.2.2.2.1, CC.2.2.2.2.2.1, gT_ok hS⟩ (hs l G CC.2.2.2.2.2.2.2.1) ⟨cb_of hS hM.1 hl g0, gT_ok hS _ (inT_gT hM.2)⟩ ⟨PcM.blind, pc_of hS hR hF⟩ rfl (by simpa using hn) hL.1 (by simp) (lv_room (by rw [cat_map]; exact g3)) hd ⟨by show cells + j1 ≤ mc; omega, by show slots + j2 ≤ ms; omega⟩) kr kx
theorem a_callSN {idx : Nat} (hC : look C pc = some (.invokestatic idx, np, tgt, w)) (hl : LKn C.1.cls idx C') (hM : MOs C' n) (hs : Sp S C' d' j1 j2 As h Q' X') (hn : As.length = n) (h0 : st0 = As.reverse ++ st) (ho : cOk d d' j1 j2 k1 k2 st = true) (hh : C.2.2.2.2.1 = [])
    (kr : ∀ v h', Q' v h' → AW S C d Q X (k1 - j1) (k2 - j2) np ls (v.toList ++ st) h') (kx : ∀ E h', X' E h' → X E h') : AW S C d Q X k1 k2 pc ls st0 h := by
  intro p l e s m args below meth c H la locs cells slots mc ms G CC hS hL hR hF h1 h2
  obtain ⟨hd, rfl, -⟩ := okd CC.2.2.2.2.2.2.2.2.2 hC rfl
  obtain ⟨g0, g1, g2, g3⟩ := cOk_spec ho
  subst h0
  obtain ⟨host, hl⟩ := hl
  refine a_end CC hS hL hF h1 h2 g1 g2 hh (vx_runSN (Ts := gT) (As := As.map (mv G)) ⟨CC.1, CC.2.1, CC.2.2.2.2.1, CC.2.2.2.2.2.1, gT_ok hS⟩ (hs l G CC.2.2.2.2.2.2.2.1) ⟨cn_of hS hM.1 hl g0, gT_ok hS _ (inT_gT hM.2), trivial⟩ ⟨PcM.blind, pc_of hS hR hF⟩ rfl (by simpa using hn) hL.1 (by simp) (lv_room (by rw [cat_map]; exact g3)) hd ⟨by show cells + j1 ≤ mc; omega, by show slots + j2 ≤ ms; omega⟩) kr kx
theorem a_callI {idx q : Nat} (hC : look C pc = some (.invokespecial idx, np, tgt, w)) (hl : LK C.1.cls idx C') (hM : MOi C' n) (hs : Sp S C' d' j1 j2 (.ref q :: As) h Q' X') (hn : As.length = n) (h0 : st0 = As.reverse ++ .ref q :: st) (ho : cOk d d' j1 j2 k1 k2 st = true) (hh : C.2.2.2.2.1 = [])
    (kr : ∀ v h', Q' v h' → AW S C d Q X (k1 - j1) (k2 - j2) np ls (v.toList ++ st) h') (kx : ∀ E h', X' E h' → X E h') : AW S C d Q X k1 k2 pc ls st0 h := by
  intro p l e s m args below meth c H la locs cells slots mc ms G CC hS hL hR hF h1 h2
  obtain ⟨hd, rfl, -⟩ := okd CC.2.2.2.2.2.2.2.2.2 hC rfl
  obtain ⟨g0, g1, g2, g3⟩ := cOk_spec ho
  subst h0
  have cb := cb_of (args := args) (mc := mc) (ms := ms) (j1 := j1) (j2 := j2) hS hM.1 hl g0
  rw [hM.2.2.2] at cb
  refine a_end CC hS hL hF h1 h2 g1 g2 hh (vx_runI (Ts := gT) (As := As.map (mv G)) (b := ad G q) ⟨CC.1, CC.2.1, CC.2.2.2.2.1, CC.2.2.2.2.2.1, gT_ok hS⟩ (hs l G CC.2.2.2.2.2.2.2.1) ⟨cb, hM.2.2.1, gT_ok hS _ (inT_gT hM.2.1)⟩ ⟨PcM.blind, pc_of (As := .ref q :: As) hS hR hF⟩ rfl (by simpa using hn) hL.1 (by simp [mv]) (lv_room (by rw [cat_map]; exact g3)) hd ⟨by show cells + j1 ≤ mc; omega, by show slots + j2 ≤ ms; omega⟩) kr kx
theorem a_callIN {idx q : Nat} (hC : look C pc = some (.invokespecial idx, np, tgt, w)) (hl : LKn C.1.cls idx C') (hM : MOi C' n) (hs : Sp S C' d' j1 j2 (.ref q :: As) h Q' X') (hn : As.length = n) (h0 : st0 = As.reverse ++ .ref q :: st) (ho : cOk d d' j1 j2 k1 k2 st = true) (hh : C.2.2.2.2.1 = [])
    (kr : ∀ v h', Q' v h' → AW S C d Q X (k1 - j1) (k2 - j2) np ls (v.toList ++ st) h') (kx : ∀ E h', X' E h' → X E h') : AW S C d Q X k1 k2 pc ls st0 h := by
  intro p l e s m args below meth c H la locs cells slots mc ms G CC hS hL hR hF h1 h2
  obtain ⟨hd, rfl, -⟩ := okd CC.2.2.2.2.2.2.2.2.2 hC rfl
  obtain ⟨g0, g1, g2, g3⟩ := cOk_spec ho
  subst h0
  obtain ⟨host, hl⟩ := hl
  have cb := cn_of (args := args) (mc := mc) (ms := ms) (j1 := j1) (j2 := j2) hS hM.1 hl g0
  rw [hM.2.2.2] at cb
  refine a_end CC hS hL hF h1 h2 g1 g2 hh (vx_runIN (Ts := gT) (As := As.map (mv G)) (b := ad G q) ⟨CC.1, CC.2.1, CC.2.2.2.2.1, CC.2.2.2.2.2.1, gT_ok hS⟩ (hs l G CC.2.2.2.2.2.2.2.1) ⟨cb, hM.2.2.1, gT_ok hS _ (inT_gT hM.2.1)⟩ ⟨PcM.blind, pc_of (As := .ref q :: As) hS hR hF⟩ rfl (by simpa using hn) hL.1 (by simp [mv]) (lv_room (by rw [cat_map]; exact g3)) hd ⟨by show cells + j1 ≤ mc; omega, by show slots + j2 ≤ ms; omega⟩) kr kx
/-- a static method with handlers of its own, which never throws -/
theorem a_callW {idx : Nat} (hC : look C pc = some (.invokestatic idx, np, tgt, w)) (hl : LK C.1.cls idx C') (hM : MOw C' n) (hs : Sp S C' d' j1 j2 As h Q' X') (hn : As.length = n) (h0 : st0 = As.reverse ++ st) (ho : cOk d d' j1 j2 k1 k2 st = true) (hh : C.2.2.2.2.1 = [])
    (kr : ∀ v h', Q' v h' → AW S C d Q X (k1 - j1) (k2 - j2) np ls (v.toList ++ st) h') (kx : ∀ E h', X' E h' → X E h') : AW S C d Q X k1 k2 pc ls st0 h := by
  intro p l e s m args below meth c H la locs cells slots mc ms G CC hS hL hR hF h1 h2
  obtain ⟨hd, rfl, -⟩ := okd CC.2.2.2.2.2.2.2.2.2 hC rfl
  obtain ⟨g0, g1, g2, g3⟩ := cOk_spec ho
  subst h0
  have hw : ∀ w ∈ [mW C'], inT w := fun w hw => by
    rw [mW_codeW hM.1, List.mem_singleton] at hw
    subst hw
    exact hM.2.1
  have hm := hM.2.2.2.2.1
  have cw := vx_cwSW (R := rmD d mc ms) (s := s) (args := args) (own := C.1.cls) (index := idx) (hh := C'.2.2.2.2.1) (rm := rmD d' j1 j2) (mc := j1) (ms := j2) (ws := [mW C']) (ws' := []) (bytes := C'.2.1) (maxL := C'.2.2.1) (ret := C'.2.2.2.1) (y := C'.1) (Ts := gT) n (gT_ok hS) (good_gT (fun w hw' => by
      unfold va_wsS at hw'
      rcases List.mem_append.mp hw' with hw' | hw'
      · simp only [List.mem_cons, List.not_mem_nil, or_false] at hw'
        rcases hw' with rfl | rfl | rfl
        · exact hl
        · exact hM.2.2.2.2.2
        · exact hM.2.2.1
      · exact hw w hw')) (by rw [mW_codeW hM.1]) rfl rfl hM.2.2.2.1 ⟨by show d' + 998 + 1 ≤ d + 998; omega, by show 8 + (C'.2.2.1 + 11) + 80 * d' ≤ 80 * d; omega⟩
  refine a_end CC hS hL hF h1 h2 g1 g2 hh (vx_runSX (Ts := gT) (As := As.map (mv G)) ⟨CC.1, CC.2.1, CC.2.2.2.2.1, CC.2.2.2.2.2.1, gT_ok hS⟩ (hs l G CC.2.2.2.2.2.2.2.1) cw ⟨PcM.blind, pc_of hS hR hF⟩ rfl (by simpa using hn) hL.1 (by simp) (lv_room (by rw [cat_map]; exact g3)) hd ⟨by show cells + j1 ≤ mc; omega, by show slots + j2 ≤ ms; omega⟩) kr kx
end A9
end
section
/-! ===== the rules of AW: making, constants, the library, throwing ===== -/
def upK (K : Nat → Nat × Nat) (p : Nat) (v : Nat × Nat) : Nat → Nat × Nat := fun q => if q = p then v else K q
/-- 'new' of a class of places -/
def LN (own : String) (idx ci N : Nat) : Prop := ∃ r, aC[ci]? = some r ∧ aOk r ∧ r.1.2.2 = N ∧ inT (.classLink own idx r.1.1) ∧ inT (.instantiable r.1.1 r.1.2.2) ∧ inT (.initialized r.1.1) ∧ ∀ k, k < N → (isIntTy (r.2 k) || isRefTy (r.2 k)) = true
theorem Rep.push {G : aG} {K : Nat → Nat × Nat} {I : Nat → Nat → Int32} {L : Nat → Nat → Int64} {R : Nat → Nat → Nat} {t : Nat} {v : Nat × Nat} {H H' : Heap} (hR : Rep G (K, I, L, R, t) H) (ht : 200 ≤ t) (hz : H'.size = H.size + 1) (ho : ∀ q, q < H.size → H'[q]? = H[q]?) (hc : ad G t = H.size → cellA G (upK K t v, I, L, R, t + 1) H' t) : Rep G (upK K t v, I, L, R, t + 1) H' ∧ ad G t = H.size := by
  obtain ⟨h1, h2, h3, h4⟩ := hR
  have e : ad G t = H.size := by rw [ad_dyn ht]; exact (h3 ht).symm
  refine ⟨⟨fun q => ?_, fun q hq => ?_, fun z => ?_, by rw [hz]; exact Nat.le_succ_of_le h4⟩, e⟩
  · by_cases hq : q = t
    · subst hq
      exact hc e
    · have h5 := h1 q
      unfold cellA at h5 ⊢
      dsimp only at h5 ⊢
      rw [show upK K t v q = K q by simp [upK, hq]]
      rcases hk : K q with ⟨a, b⟩
      rw [hk] at h5
      rcases a with _ | _ | a
      · trivial
      · obtain ⟨r, r1, cell, r2, r3⟩ := h5
        exact ⟨r, r1, cell, (ho _ (Array.getElem?_eq_some_iff.mp r2).1).trans r2, r3⟩
      · have h6 : H[ad G q]? = some (arrV (G.2.1 (a + 2)) b (fun j => ev G I L R (a + 2) q j)) := h5
        exact (ho _ (Array.getElem?_eq_some_iff.mp h6).1).trans h6
  · by_cases hqt : q = t
    · rw [hqt]; exact ht
    · exact h2 q (by simpa [upK, hqt] using hq)
  · show H'.size = _
    rw [hz, h3 ht]
    show G.2.2.1 + (t - 200) + 1 = G.2.2.1 + (t + 1 - 200)
    omega
theorem fv_zero {G : aG} {I : Nat → Nat → Int32} {R : Nat → Nat → Nat} {p k : Nat} {ty : FieldType} (h : (isIntTy ty || isRefTy ty) = true) (hI : I p k = 0) (hR : R p k = 0) : fv G I R p ty k = defaultValue ty := by
  cases ty <;> first | (cases h; done) | simp [fv, hI, hR, defaultValue, rv, mv]
def atyTag : ArrayType → Nat
  | .int => 2
  | .byte => 3
  | .long => 4
  | _ => 9
theorem aty_cases {aty : ArrayType} {tg : Nat} (h : atyTag aty = tg + 2) (h3 : tg < 3) : (aty = .int ∧ tg = 0) ∨ (aty = .byte ∧ tg = 1) ∨ (aty = .long ∧ tg = 2) := by
  cases aty <;> simp only [atyTag] at h <;> first | (exact absurd h (by omega)) | exact Or.inl ⟨rfl, by omega⟩ | exact Or.inr (Or.inl ⟨rfl, by omega⟩) | exact Or.inr (Or.inr ⟨rfl, by omega⟩)
section B1
variable {S : aS} {C C' : aM} {d d' : Nat} {Q Q' : Option Value → aH → Prop} {X X' : String → aH → Prop} {k1 k2 j1 j2 pc np tgt n : Nat} {w : Int32} {ls ls' : List (Option Value)} {st st' st0 : List Value} {h : aH} {ins : Instr} {As : List Value}
variable {K : Nat → Nat × Nat} {I : Nat → Nat → Int32} {L : Nat → Nat → Int64} {R : Nat → Nat → Nat} {t : Nat}
theorem a_new {idx ci N : Nat} (hC : look C pc = some (.new idx, np, tgt, w)) (hl : LN C.1.cls idx ci N) (ht : Nat.ble 200 t = true) (h1 : Nat.ble 1 k1 = true) (h2 : Nat.ble N k2 = true) (hI : ∀ k, I t k = 0) (hR0 : ∀ k, R t k = 0) (kk : AW S C d Q X (k1 - 1) (k2 - N) np ls (.ref t :: st) (upK K t (1, ci), I, L, R, t + 1)) : AW S C d Q X k1 k2 pc ls st (K, I, L, R, t) := by
  intro p l e s m args below meth c H la locs cells slots mc ms G CC hS hL hR hF g1 g2
  obtain ⟨hd, rfl, -⟩ := okd CC.2.2.2.2.2.2.2.2.2 hC rfl
  have ht := Nat.le_of_ble_eq_true ht
  have h1 := Nat.le_of_ble_eq_true h1
  have h2 := Nat.le_of_ble_eq_true h2
  obtain ⟨r, hr, hok, rfl, w1, w2, w3, hty⟩ := hl
  have hKn := hS.1 ci r hr
  have tk : ∀ x, inT x → x.before args s = true := fun x hx => gT_ok hS _ (inT_gT hx)
  have hts : ∀ w ∈ u_ws r.1.1 r.1.2.1 r.1.2.2, w.before args s = true := fun w hw => tk w (hok.1 w hw)
  refine W.newcK CC.1 CC.2.1 CC.2.2.2.2.2.1 (tk _ w1) (tk _ w2) (tk _ w3) rfl hd (by show cells + 1 ≤ mc; omega) (by show slots + r.1.2.2 ≤ ms; omega) hKn.2.1 rfl fun H1 kC hkC e1 z1 o1 => ?_
  obtain ⟨hR', ea⟩ := Rep.push (v := (1, ci)) (H' := H1) hR ht z1 o1 (fun ea => by
    unfold cellA
    dsimp only
    rw [show upK K t (1, ci) t = (1, ci) by simp [upK]]
    obtain ⟨cell, c1, c2, c3, c4⟩ := u_born (o := H.size) r.2 hts (fun w hw => hw) hKn hkC e1 hok.2.2
    refine ⟨r, hr, cell, by rw [ea]; exact c1, c2, c3, fun k hk => ?_⟩
    rw [c4 k hk]
    exact congrArg some (fv_zero (hty k hk) (hI k) (hR0 k)).symm)
  rw [← ea]
  exact kk p l e s m args below meth c H1 la locs (cells + 1) (slots + r.1.2.2) mc ms G CC hS hL hR' ⟨Nat.le_trans hF.1 (by omega), fun q q1 q2 => (o1 q (Nat.lt_of_lt_of_le q1 hF.1)).trans (hF.2.1 q q1 q2), hF.2.2⟩ (by omega) (by omega)
theorem a_newarr {aty : ArrayType} {x : Int32} {N tg : Nat} (hC : look C pc = some (.newarray aty, np, tgt, w)) (ha : atyTag aty = tg + 2) (htg : Nat.blt tg 3 = true) (hw : inT (.arrayClass (newarray.typeOf aty))) (hx : ¬ x < 0) (hN : x.toNatClampNeg = N) (hN2 : Nat.ble N 60000 = true) (ht : Nat.ble 200 t = true) (h1 : Nat.ble 1 k1 = true) (h2 : Nat.ble N k2 = true) (hI : ∀ k, I t k = 0) (hL0 : ∀ k, L t k = 0) (kk : AW S C d Q X (k1 - 1) (k2 - N) np ls (.ref t :: st) (upK K t (tg + 2, N), I, L, R, t + 1)) : AW S C d Q X k1 k2 pc ls (.int x :: st) (K, I, L, R, t) := by
  intro p l e s m args below meth c H la locs cells slots mc ms G CC hS hL hR hF g1 g2
  obtain ⟨hd, rfl, -⟩ := okd CC.2.2.2.2.2.2.2.2.2 hC rfl
  have ht := Nat.le_of_ble_eq_true ht
  have h1 := Nat.le_of_ble_eq_true h1
  have h2 := Nat.le_of_ble_eq_true h2
  have hN2 := Nat.le_of_ble_eq_true hN2
  have htg : tg < 3 := Nat.le_of_ble_eq_true htg
  have tk : ∀ x, inT x → x.before args s = true := fun x hx => gT_ok hS _ (inT_gT hx)
  have hbytes : N * componentBytes (newarray.typeOf aty) ≤ 536870912 := by
    have : componentBytes (newarray.typeOf aty) ≤ 8 := by cases aty <;> decide
    calc N * componentBytes (newarray.typeOf aty) ≤ 60000 * 8 := Nat.mul_le_mul hN2 this
      _ ≤ 536870912 := by decide
  refine va_newaK CC.1 CC.2.1 (tk _ hw) rfl hd rfl hx hN hbytes (by show cells + 1 ≤ mc; omega) (by show slots + N ≤ ms; omega) rfl fun H1 cA e1 z1 o1 hAr hNm => ?_
  have hcA : cA = G.2.1 (tg + 2) := by
    have h3 := (hS.2.1 tg (by omega)).2
    rcases aty_cases ha htg with ⟨rfl, rfl⟩ | ⟨rfl, rfl⟩ | ⟨rfl, rfl⟩ <;> exact Option.some.inj (hNm.symm.trans h3)
  subst hcA
  obtain ⟨hR', ea⟩ := Rep.push (v := (tg + 2, N)) (H' := H1) hR ht z1 o1 (fun ea => by
    unfold cellA
    dsimp only
    rw [show upK K t (tg + 2, N) t = (tg + 2, N) by simp [upK]]
    show H1[ad G t]? = some (arrV _ _ _)
    rw [ea, e1]
    congr 2
    funext j
    rcases aty_cases ha htg with ⟨rfl, rfl⟩ | ⟨rfl, rfl⟩ | ⟨rfl, rfl⟩ <;> simp [ev, hI, hL0, newarray.typeOf, defaultValue])
  rw [← ea]
  exact kk p l e s m args below meth c H1 la locs (cells + 1) (slots + N) mc ms G CC hS hL hR' ⟨Nat.le_trans hF.1 (by omega), fun q q1 q2 => (o1 q (Nat.lt_of_lt_of_le q1 hF.1)).trans (hF.2.1 q q1 q2), hF.2.2⟩ (by omega) (by omega)
/-- the one array of streets -/
theorem a_anew {idx N : Nat} {x : Int32} (hC : look C pc = some (.anewarray idx, np, tgt, w)) (hw1 : inT (.classLink C.1.cls idx RX5)) (hx : ¬ x < 0) (hN : x.toNatClampNeg = N) (hN2 : Nat.ble N 60000 = true) (ht : Nat.ble 200 t = true) (h1 : Nat.ble 1 k1 = true) (h2 : Nat.ble N k2 = true) (hR0 : ∀ k, R t k = 0) (kk : AW S C d Q X (k1 - 1) (k2 - N) np ls (.ref t :: st) (upK K t (5, N), I, L, R, t + 1)) : AW S C d Q X k1 k2 pc ls (.int x :: st) (K, I, L, R, t) := by
  intro p l e s m args below meth c H la locs cells slots mc ms G CC hS hL hR hF g1 g2
  obtain ⟨hd, rfl, -⟩ := okd CC.2.2.2.2.2.2.2.2.2 hC rfl
  have ht := Nat.le_of_ble_eq_true ht
  have h1 := Nat.le_of_ble_eq_true h1
  have h2 := Nat.le_of_ble_eq_true h2
  have hN2 := Nat.le_of_ble_eq_true hN2
  have tk : ∀ x, inT x → x.before args s = true := fun x hx => gT_ok hS _ (inT_gT hx)
  subst hN
  refine W.anew CC.1 CC.2.1 CC.2.2.2.2.2.1 (tk _ hw1) hS.2.2.2.2.2.2.2.use rfl hd rfl hx (by omega) (by show cells + 1 ≤ mc; omega) (by show slots + _ ≤ ms; omega) fun cA kA comp e0 e1 e2 e3 => ?_
  have hcA : cA = G.2.1 5 := by
    obtain ⟨kA', comp', b1, b2, b3, b4⟩ := (hS.2.1 3 (by decide)).2
    exact Option.some.inj (e0.symm.trans b4)
  subst hcA
  obtain ⟨hR', ea⟩ := Rep.push (v := (5, x.toNatClampNeg)) (H' := H.push { cls := G.2.1 5, slots := Array.replicate x.toNatClampNeg .null, vm := .none }) hR ht (by simp) (fun q hq => by rw [Array.getElem?_push, if_neg (Nat.ne_of_lt hq)]) (fun ea => by
    unfold cellA
    dsimp only
    rw [show upK K t (5, x.toNatClampNeg) t = (5, x.toNatClampNeg) by simp [upK]]
    show (H.push _)[ad G t]? = some (arrV _ _ _)
    rw [ea, arrV_new]
    simp only [Array.getElem?_push_size]
    congr 2
    funext j
    simp [ev, hR0, rv, mv])
  have K2 := kk p l e s m args below meth c _ la locs (cells + 1) (slots + x.toNatClampNeg) mc ms G CC hS hL hR' ⟨Nat.le_trans hF.1 (by simp), fun q q1 q2 => (by rw [Array.getElem?_push, if_neg (Nat.ne_of_lt (Nat.lt_of_lt_of_le q1 hF.1))]; exact hF.2.1 q q1 q2), hF.2.2⟩ (by omega) (by omega)
  simp only [List.map_cons, mv, ea] at K2
  exact K2
theorem a_objinit {idx q : Nat} (hC : look C pc = some (.invokespecial idx, np, tgt, w)) (hl : inT (.methodLink C.1.cls idx Lib.objectInit)) (hi : inT (.instanceMethod Lib.objectInit)) (hc : inT (.code Lib.objectInit ⟨#[0xb1]⟩ 1 none)) (hd1 : Nat.ble 1 d = true) (hst : Nat.ble (st.map fun v => v.category).sum 8 = true) (kk : AW S C d Q X k1 k2 np ls st h) : AW S C d Q X k1 k2 pc ls (.ref q :: st) h := by
  intro p l e s m args below meth c H la locs cells slots mc ms G CC hS hL hR hF g1 g2
  obtain ⟨hd, rfl, -⟩ := okd CC.2.2.2.2.2.2.2.2.2 hC rfl
  have hd1 := Nat.le_of_ble_eq_true hd1
  have hst := Nat.le_of_ble_eq_true hst
  have tk : ∀ x, inT x → x.before args s = true := fun x hx => gT_ok hS _ (inT_gT hx)
  refine W.objInit CC.1 CC.2.1 CC.2.2.2.2.2.1 (tk _ hl) (tk _ hi) (tk _ hc) rfl (hL.1.trans CC.2.2.2.2.1.symm) (rest := st.map (mv G)) rfl hd (by show 1 ≤ d + 998; omega) ?_ (kk p l e s m args below meth c H la locs cells slots mc ms G CC hS hL hR hF g1 g2)
  rw [cat_map]
  show 2 * 0 + _ + 12 ≤ 80 * d
  omega
/-! constants -/
theorem a_ldc {idx : Nat} {v : Int32} (hC : look C pc = some (.ldc idx, np, tgt, w)) (hl : inT (.constant C.1.cls idx v)) (kk : AW S C d Q X k1 k2 np ls (.int v :: st) h) : AW S C d Q X k1 k2 pc ls st h := by
  intro p l e s m args below meth c H la locs cells slots mc ms G CC hS hL hR hF g1 g2
  obtain ⟨hd, rfl, -⟩ := okd CC.2.2.2.2.2.2.2.2.2 hC rfl
  exact lv_ldc CC.1 CC.2.1 CC.2.2.2.2.2.1 (gT_ok hS _ (inT_gT hl)) hd (kk p l e s m args below meth c H la locs cells slots mc ms G CC hS hL hR hF g1 g2)
theorem a_ldcw {idx : Nat} {v : Int32} (hC : look C pc = some (.ldc_w idx, np, tgt, w)) (hl : inT (.constant C.1.cls idx v)) (kk : AW S C d Q X k1 k2 np ls (.int v :: st) h) : AW S C d Q X k1 k2 pc ls st h := by
  intro p l e s m args below meth c H la locs cells slots mc ms G CC hS hL hR hF g1 g2
  obtain ⟨hd, rfl, -⟩ := okd CC.2.2.2.2.2.2.2.2.2 hC rfl
  exact lv_ldcw CC.1 CC.2.1 CC.2.2.2.2.2.1 (gT_ok hS _ (inT_gT hl)) hd (kk p l e s m args below meth c H la locs cells slots mc ms G CC hS hL hR hF g1 g2)
theorem a_ldc2 {idx : Nat} {v : Int64} (hC : look C pc = some (.ldc2_w idx, np, tgt, w)) (hl : inT (.constantLong C.1.cls idx v)) (kk : AW S C d Q X k1 k2 np ls (.long v :: st) h) : AW S C d Q X k1 k2 pc ls st h := by
  intro p l e s m args below meth c H la locs cells slots mc ms G CC hS hL hR hF g1 g2
  obtain ⟨hd, rfl, -⟩ := okd CC.2.2.2.2.2.2.2.2.2 hC rfl
  exact lv_ldc2 CC.1 CC.2.1 CC.2.2.2.2.2.1 (gT_ok hS _ (inT_gT hl)) hd (kk p l e s m args below meth c H la locs cells slots mc ms G CC hS hL hR hF g1 g2)
theorem a_ldcs {idx q : Nat} {tx : String} (hC : look C pc = some (.ldc idx, np, tgt, w)) (hl : (C.1.cls, idx, tx, q) ∈ S.2.2.2.2.1) (kk : AW S C d Q X k1 k2 np ls (.ref q :: st) h) : AW S C d Q X k1 k2 pc ls st h := by
  intro p l e s m args below meth c H la locs cells slots mc ms G CC hS hL hR hF g1 g2
  obtain ⟨hd, rfl, -⟩ := okd CC.2.2.2.2.2.2.2.2.2 hC rfl
  have h5 : vk_R C.1.cls idx tx (ad G q) s := hS.2.2.2.2.1 (C.1.cls, idx, tx, q) hl
  exact va_ldcS (rest := st.map (mv G)) CC.1 CC.2.1 CC.2.2.2.2.2.1 h5 hd (kk p l e s m args below meth c H la locs cells slots mc ms G CC hS hL hR hF g1 g2)
theorem a_gets {idx : Nat} {cn f dd : String} {v : Value} (hC : look C pc = some (.getstatic idx, np, tgt, w)) (hl : inT (.fieldLink C.1.cls idx cn f dd)) (hs : (cn, f, dd, v) ∈ S.1) (kk : AW S C d Q X k1 k2 np ls (v :: st) h) : AW S C d Q X k1 k2 pc ls st h := by
  intro p l e s m args below meth c H la locs cells slots mc ms G CC hS hL hR hF g1 g2
  obtain ⟨hd, rfl, -⟩ := okd CC.2.2.2.2.2.2.2.2.2 hC rfl
  exact va_gets CC.1 CC.2.1 (hS.2.2.2.1.2.1 _ hs) hF CC.2.2.2.2.2.1 (gT_ok hS _ (inT_gT hl)) (fun _ z => z) hd (kk p l e s m args below meth c H la locs cells slots mc ms G CC hS hL hR hF g1 g2)
/-- a constant object's field -/
theorem a_getc {idx q : Nat} {o f dd : String} {v : Value} (hC : look C pc = some (.getfield idx, np, tgt, w)) (hl : inT (.fieldLink C.1.cls idx o f dd)) (hs : (q, o, f, dd, v) ∈ S.2.2.1) (kk : AW S C d Q X k1 k2 np ls (v :: st) h) : AW S C d Q X k1 k2 pc ls (.ref q :: st) h := by
  intro p l e s m args below meth c H la locs cells slots mc ms G CC hS hL hR hF g1 g2
  obtain ⟨hd, rfl, -⟩ := okd CC.2.2.2.2.2.2.2.2.2 hC rfl
  obtain ⟨cf, k, i, fd, cell, r1, r2, r3, r4, r5, r6⟩ := hS.2.2.2.1.2.2.2.1 _ hs
  have hq : H[ad G q]? = some cell := by
    rw [hF.2.1 _ (Array.getElem?_eq_some_iff.mp r3).1 r6]
    exact r3
  exact W.getf CC.1 CC.2.1 CC.2.2.2.2.2.1 (gT_ok hS _ (inT_gT hl)) r1 r2 hq r4 r5 rfl rfl hd (kk p l e s m args below meth c H la locs cells slots mc ms G CC hS hL hR hF g1 g2)
/-- a constant array -/
theorem a_lenc {q N : Nat} {ty : FieldType} {f : Nat → Value} (hC : look C pc = some (.arraylength, np, tgt, w)) (hs : (q, ty, N, f) ∈ S.2.2.2.1) {x : Int32} (hx : Int32.ofNat N = x) (kk : AW S C d Q X k1 k2 np ls (.int x :: st) h) : AW S C d Q X k1 k2 pc ls (.ref q :: st) h := by
  intro p l e s m args below meth c H la locs cells slots mc ms G CC hS hL hR hF g1 g2
  obtain ⟨hd, rfl, -⟩ := okd CC.2.2.2.2.2.2.2.2.2 hC rfl
  obtain ⟨cell, r1, r2, r3, r4, r5, r6, r7⟩ := hS.2.2.2.1.2.2.2.2 _ hs
  have hq : H[ad G q]? = some cell := by
    rw [hF.2.1 _ (Array.getElem?_eq_some_iff.mp r1).1 r7]
    exact r1
  exact W.alen CC.1 CC.2.1 hq r2 (r5.trans hx) rfl rfl hd (kk p l e s m args below meth c H la locs cells slots mc ms G CC hS hL hR hF g1 g2)
theorem a_aaldc {q N : Nat} {ty : FieldType} {f : Nat → Value} {i : Int32} (hC : look C pc = some (.aaload, np, tgt, w)) (hs : (q, ty, N, f) ∈ S.2.2.2.1) (hty : ty.isReference = true) (hi : inI i N) (kk : AW S C d Q X k1 k2 np ls (f i.toNatClampNeg :: st) h) : AW S C d Q X k1 k2 pc ls (.int i :: .ref q :: st) h := by
  intro p l e s m args below meth c H la locs cells slots mc ms G CC hS hL hR hF g1 g2
  obtain ⟨hd, rfl, -⟩ := okd CC.2.2.2.2.2.2.2.2.2 hC rfl
  obtain ⟨cell, r1, r2, r3, r4, r5, r6, r7⟩ := hS.2.2.2.1.2.2.2.2 _ hs
  have hq : H[ad G q]? = some cell := by
    rw [hF.2.1 _ (Array.getElem?_eq_some_iff.mp r1).1 r7]
    exact r1
  exact W.aald CC.1 CC.2.1 hq r2 hty r3 (inI_not ⟨hi.1, Nat.lt_of_lt_of_le hi.2 r4⟩) (r6 _ hi.2) rfl rfl hd (kk p l e s m args below meth c H la locs cells slots mc ms G CC hS hL hR hF g1 g2)
theorem a_baldc {q N : Nat} {f : Nat → Value} {i : Int32} (hC : look C pc = some (.baload, np, tgt, w)) (hs : (q, .byte, N, f) ∈ S.2.2.2.1) (hi : inI i N) (kk : AW S C d Q X k1 k2 np ls (f i.toNatClampNeg :: st) h) : AW S C d Q X k1 k2 pc ls (.int i :: .ref q :: st) h := by
  intro p l e s m args below meth c H la locs cells slots mc ms G CC hS hL hR hF g1 g2
  obtain ⟨hd, rfl, -⟩ := okd CC.2.2.2.2.2.2.2.2.2 hC rfl
  obtain ⟨cell, r1, r2, r3, r4, r5, r6, r7⟩ := hS.2.2.2.1.2.2.2.2 _ hs
  have hq : H[ad G q]? = some cell := by
    rw [hF.2.1 _ (Array.getElem?_eq_some_iff.mp r1).1 r7]
    exact r1
  exact W.bald CC.1 CC.2.1 hq r2 r3 (inI_not ⟨hi.1, Nat.lt_of_lt_of_le hi.2 r4⟩) (r6 _ hi.2) rfl rfl hd (kk p l e s m args below meth c H la locs cells slots mc ms G CC hS hL hR hF g1 g2)
/-! the library -/
def mOk (y : MethodName) (b : ByteArray) (n : Nat) : Prop := inT (.static y) ∧ inT (.initialized "java/lang/Math") ∧ inT (.code y b n (some .int))
theorem a_min {idx : Nat} {x y : Int32} (hC : look C pc = some (.invokestatic idx, np, tgt, w)) (hl : inT (.methodLink C.1.cls idx Lib.Math.min.name)) (hm : mOk Lib.Math.min.name Lib.Math.min.code 2) (hd1 : Nat.ble 1 d = true) (hst : Nat.ble (st.map fun v => v.category).sum 8 = true) (kk : AW S C d Q X k1 k2 np ls (.int (if y < x then y else x) :: st) h) : AW S C d Q X k1 k2 pc ls (.int y :: .int x :: st) h := by
  intro p l e s m args below meth c H la locs cells slots mc ms G CC hS hL hR hF g1 g2
  obtain ⟨hd, rfl, -⟩ := okd CC.2.2.2.2.2.2.2.2.2 hC rfl
  have hd1 := Nat.le_of_ble_eq_true hd1
  have hst := Nat.le_of_ble_eq_true hst
  have tk : ∀ x, inT x → x.before args s = true := fun x hx => gT_ok hS _ (inT_gT hx)
  refine va_mmin CC.1 CC.2.1 (CC.2.2.2.2.1.trans hL.1.symm) CC.2.2.2.2.2.1 (tk _ hl) (tk _ hm.1) (tk _ hm.2.1) (tk _ hm.2.2) (by show 1 ≤ d + 998; omega) ?_ (by show cells ≤ mc; omega) (by show slots ≤ ms; omega) hd (kk p l e s m args below meth c H la locs cells slots mc ms G CC hS hL hR hF g1 g2)
  rw [cat_map]
  show _ + 13 ≤ 80 * d
  omega
theorem a_max {idx : Nat} {x y : Int32} (hC : look C pc = some (.invokestatic idx, np, tgt, w)) (hl : inT (.methodLink C.1.cls idx Lib.Math.max.name)) (hm : mOk Lib.Math.max.name Lib.Math.max.code 2) (hd1 : Nat.ble 1 d = true) (hst : Nat.ble (st.map fun v => v.category).sum 8 = true) (kk : AW S C d Q X k1 k2 np ls (.int (if x < y then y else x) :: st) h) : AW S C d Q X k1 k2 pc ls (.int y :: .int x :: st) h := by
  intro p l e s m args below meth c H la locs cells slots mc ms G CC hS hL hR hF g1 g2
  obtain ⟨hd, rfl, -⟩ := okd CC.2.2.2.2.2.2.2.2.2 hC rfl
  have hd1 := Nat.le_of_ble_eq_true hd1
  have hst := Nat.le_of_ble_eq_true hst
  have tk : ∀ x, inT x → x.before args s = true := fun x hx => gT_ok hS _ (inT_gT hx)
  refine va_mmax CC.1 CC.2.1 (CC.2.2.2.2.1.trans hL.1.symm) CC.2.2.2.2.2.1 (tk _ hl) (tk _ hm.1) (tk _ hm.2.1) (tk _ hm.2.2) (by show 1 ≤ d + 998; omega) ?_ (by show cells ≤ mc; omega) (by show slots ≤ ms; omega) hd (kk p l e s m args below meth c H la locs cells slots mc ms G CC hS hL hR hF g1 g2)
  rw [cat_map]
  show _ + 13 ≤ 80 * d
  omega
theorem a_abs {idx : Nat} {x : Int32} (hC : look C pc = some (.invokestatic idx, np, tgt, w)) (hl : inT (.methodLink C.1.cls idx Lib.Math.abs.name)) (hm : mOk Lib.Math.abs.name Lib.Math.abs.code 1) (hd1 : Nat.ble 1 d = true) (hst : Nat.ble (st.map fun v => v.category).sum 8 = true) (kk : AW S C d Q X k1 k2 np ls (.int (if 0 ≤ x then x else 0 - x) :: st) h) : AW S C d Q X k1 k2 pc ls (.int x :: st) h := by
  intro p l e s m args below meth c H la locs cells slots mc ms G CC hS hL hR hF g1 g2
  obtain ⟨hd, rfl, -⟩ := okd CC.2.2.2.2.2.2.2.2.2 hC rfl
  have hd1 := Nat.le_of_ble_eq_true hd1
  have hst := Nat.le_of_ble_eq_true hst
  have tk : ∀ x, inT x → x.before args s = true := fun x hx => gT_ok hS _ (inT_gT hx)
  refine va_mabs CC.1 CC.2.1 (CC.2.2.2.2.1.trans hL.1.symm) CC.2.2.2.2.2.1 (tk _ hl) (tk _ hm.1) (tk _ hm.2.1) (tk _ hm.2.2) (by show 1 ≤ d + 998; omega) ?_ (by show cells ≤ mc; omega) (by show slots ≤ ms; omega) hd (kk p l e s m args below meth c H la locs cells slots mc ms G CC hS hL hR hF g1 g2)
  rw [cat_map]
  show _ + 13 ≤ 80 * d
  omega
def upr {α : Type} (f : Nat → α) (p : Nat) (r : α) : Nat → α := fun q => if q = p then r else f q
/-- System.arraycopy of rows of ints -/
theorem a_copy {idx q q' n0 n1 : Nat} {sp dp n : Int32} (hC : look C pc = some (.invokestatic idx, np, tgt, w)) (hl : inT (.methodLink C.1.cls idx arraycopyName)) (hm : inT (.native arraycopyName) ∧ inT (.static arraycopyName) ∧ inT (.initialized "java/lang/System")) (hK0 : K q = (2, n0)) (hK1 : K q' = (2, n1)) (h1 : ¬ sp < 0) (h2 : ¬ dp < 0) (h3 : ¬ n < 0) (h4 : sp.toNatClampNeg + n.toNatClampNeg ≤ n0) (h5 : dp.toNatClampNeg + n.toNatClampNeg ≤ n1) (hd1 : Nat.ble 1 d = true) (hst : Nat.ble (st.map fun v => v.category).sum 8 = true)
    (kk : AW S C d Q X k1 k2 np ls st (K, upr I q' (va_cpy (I q) (I q') sp.toNatClampNeg dp.toNatClampNeg n.toNatClampNeg), L, R, t)) : AW S C d Q X k1 k2 pc ls (.int n :: .int dp :: .ref q' :: .int sp :: .ref q :: st) (K, I, L, R, t) := by
  intro p l e s m args below meth c H la locs cells slots mc ms G CC hS hL hR hF g1 g2
  obtain ⟨hd, rfl, -⟩ := okd CC.2.2.2.2.2.2.2.2.2 hC rfl
  have hd1 := Nat.le_of_ble_eq_true hd1
  have hst := Nat.le_of_ble_eq_true hst
  have tk : ∀ x, inT x → x.before args s = true := fun x hx => gT_ok hS _ (inT_gT hx)
  have nn : ∀ z : Int32, ¬ z < 0 → z.toInt = (z.toNatClampNeg : Int) := by
    intro z hz
    have hz0 : (0 : Int) ≤ z.toInt := by
      have := Int32.not_lt.mp hz
      simpa using Int32.le_iff_toInt_le.mp this
    show z.toInt = ((z.toInt.toNat : Nat) : Int)
    omega
  have hp : 200 ≤ q' := hR.2.1 q' (by show (K q').1 ≠ 0; rw [hK1]; simp)
  have hc0 : H[ad G q]? = some (arrV (G.2.1 2) n0 (fun j => .int (I q j))) := hR.ar (t := 0) hK0
  have hc1 : H[ad G q']? = some (arrV (G.2.1 2) n1 (fun j => .int (I q' j))) := hR.ar (t := 0) hK1
  obtain ⟨-, k0, hk0, cm0, hkk0⟩ := (hS.2.1 0 (by decide)).1 n0 (fun j => .int (I q j))
  obtain ⟨-, kk1, hkk1', cm1, hkk1⟩ := (hS.2.1 0 (by decide)).1 n1 (fun j => .int (I q' j))
  intro T hT Y
  obtain ⟨vm', X', step⟩ := Y.arraycopy CC.1 CC.2.2.2.2.2.1 (tk _ hl) (tk _ hm.1) (tk _ hm.2.1) (tk _ hm.2.2) (src := ad G q) (dst := ad G q') (cs := arrV (G.2.1 2) n0 (fun j => .int (I q j))) (cd := arrV (G.2.1 2) n1 (fun j => .int (I q' j))) (srcPos := sp) (destPos := dp) (n := n) (by rw [hT]; exact hc0) (by rw [hT]; exact hc1)
    (arrV_ks _ _ _) (arrV_ks _ _ _) (arrV_kn _ _ _) (arrV_kn _ _ _) hk0 hkk1' hkk0 hkk1 (by simp [tagTy, refKind]) h1 h2 h3
    (by rw [nn sp h1, nn n h3, arrV_size]; omega)
    (by rw [nn dp h2, nn n h3, arrV_size]; omega)
    (fun vm₁ _ i hi => by
      have e : (arrV (G.2.1 2) n0 (fun j => Value.int (I q j))).slots.getD (sp.toNatClampNeg + i) .null = .int (I q (sp.toNatClampNeg + i)) := by
        rw [Array.getD_eq_getD_getElem?, arrV_read _ _ (by omega)]
        rfl
      refine ⟨?_, ?_⟩
      · rw [e]
        rfl
      · rw [e]
        exact trivial)
    (g := F0 m pc la ((Value.int n :: .int dp :: .ref q' :: .int sp :: .ref q :: st).map (mv G))) rfl (by show la.size = _; rw [hL.1, CC.2.2.2.2.1]) (rest := st.map (mv G)) rfl (by rw [CC.2.1]; exact hd) (by show 1 ≤ d + 998; omega) (by
      rw [cat_map]
      show 2 * 0 + _ + (nativeFrameWords "java/lang/System" "arraycopy" 5 + 11) ≤ 80 * d
      have : nativeFrameWords "java/lang/System" "arraycopy" 5 ≤ 40 := by decide +kernel
      omega)
  have e1 : copied (arrV (G.2.1 2) n0 (fun j => Value.int (I q j))) (arrV (G.2.1 2) n1 (fun j => Value.int (I q' j))) sp dp n = arrV (G.2.1 2) n1 (fun j => .int (va_cpy (I q) (I q') sp.toNatClampNeg dp.toNatClampNeg n.toNatClampNeg j)) := va_copied (fun z => .int z) (G.2.1 2) (G.2.1 2) (I q) (I q') h4
  rw [e1] at X' step
  have hl2 : ad G q' < H.size := (Array.getElem?_eq_some_iff.mp hc1).1
  obtain ⟨cz, hcz⟩ : ∃ z, z = arrV (G.2.1 2) n1 (fun j => Value.int (va_cpy (I q) (I q') sp.toNatClampNeg dp.toNatClampNeg n.toNatClampNeg j)) := ⟨_, rfl⟩
  rw [← hcz] at X' step
  have hheap : ((T.setVm vm').setCell (ad G q') cz).heap = H.setIfInBounds (ad G q') cz := by rw [← hT]; rfl
  have oq : ∀ z : Nat, z ≠ ad G q' → (H.setIfInBounds (ad G q') cz)[z]? = H[z]? := fun z hz => by simp [Array.getElem?_setIfInBounds, Ne.symm hz]
  have self : (H.setIfInBounds (ad G q') cz)[ad G q']? = some cz := by simp [Array.getElem?_setIfInBounds, hl2]
  have hR' : Rep G (K, upr I q' (va_cpy (I q) (I q') sp.toNatClampNeg dp.toNatClampNeg n.toNatClampNeg), L, R, t) (H.setIfInBounds (ad G q') cz) := by
    refine Rep.set hR hp (fun z hz => by simp [upr, hz]) (fun _ _ => rfl) (fun _ _ => rfl) (by simp) oq ?_
    unfold cellA
    dsimp only
    rw [hK1]
    show (H.setIfInBounds (ad G q') cz)[ad G q']? = some (arrV _ _ _)
    rw [self, hcz]
    congr 2
    funext j
    simp [ev, upr]
  obtain ⟨t2, a1, b1⟩ := kk p l e s m args below meth c _ la _ cells slots mc ms G CC hS hL hR' ⟨by simp; exact hF.1, fun z z1 z2 => by
      rw [oq z (fun e => z2 (by rw [e]; exact aA_ad hp))]
      exact hF.2.1 z z1 z2, fun z hz => by
      rcases List.mem_append.mp hz with hz | hz
      · exact hF.2.2 z hz
      · obtain ⟨y, -, hy⟩ := List.mem_map.mp hz
        rw [← hy]
        exact aA_ad hp⟩ g1 g2 _ hheap X'
  exact ⟨t2, step t2 a1, b1⟩
/-! throwing -/
/-- 'throw new E()' of class own: its words -/
def LT (own : String) (ik ic : Nat) (E : String) (names : List String) : Prop := Bundle.fit E = true ∧ (∀ n ∈ names, Bundle.fit n = true) ∧ inT (.classLink own ik E) ∧ inT (.initialized E) ∧ (∀ w ∈ vx_at0 own ic E names, inX w) ∧ names.length ≤ 5
theorem a_throw {ik ic np1 np2 np3 : Nat} {w1 w2 w3 : Int32} {t0 t1 t2 t3 : Nat} {E : String} {names : List String} (h0 : look C pc = some (.new ik, np, t0, w)) (h3 : look C np = some (.dup, np1, t1, w1)) (h4 : look C np1 = some (.invokespecial ic, np2, t2, w2)) (h7 : look C np2 = some (.athrow, np3, t3, w3)) (hl : LT C.1.cls ik ic E names) (hh : C.2.2.2.2.1 = []) (hd10 : Nat.ble 10 d = true) (hst : Nat.ble (st.map fun v => v.category).sum 8 = true) (hk1 : Nat.ble 1 k1 = true) (hk2 : Nat.ble 6 k2 = true) (hX : X E (K, I, L, R, 0)) : AW S C d Q X k1 k2 pc ls st (K, I, L, R, t) := by
  intro p l e s m args below meth c H la locs cells slots mc ms G CC hS hL hR hF g1 g2
  have hO := CC.2.2.2.2.2.2.2.2.2
  obtain ⟨d0, rfl, -⟩ := okd hO h0 rfl
  obtain ⟨d3, rfl, -⟩ := okd hO h3 rfl
  obtain ⟨d4, rfl, -⟩ := okd hO h4 rfl
  obtain ⟨d7, -, -⟩ := okd hO h7 rfl
  have hd10 := Nat.le_of_ble_eq_true hd10
  have hst := Nat.le_of_ble_eq_true hst
  have hk1 := Nat.le_of_ble_eq_true hk1
  have hk2 := Nat.le_of_ble_eq_true hk2
  have tk : ∀ x, inT x → x.before args s = true := fun x hx => gT_ok hS _ (inT_gT hx)
  obtain ⟨l1, l2, l3, l4, l5, l6⟩ := hl
  refine vx_throw0 CC.1 CC.2.1 CC.2.2.2.2.2.2.2.1 CC.2.2.2.2.2.1 l1 l2 (tk _ l3) (tk _ l4) (fun w hw => hS.2.2.1 w (l5 w hw).1 (l5 w hw).2 args) (fun w hw => ?_) hS.2.2.2.1.1.1 hS.2.2.2.1.1.2 hF (hL.1.trans CC.2.2.2.2.1.symm) d0 d3 d4 d7 (fun x hx => by rw [CC.2.2.2.2.2.2.2.2.1, hh] at hx; cases hx) (by show _ < d + 998; omega) (by rw [cat_map]; show _ ≤ 80 * d; omega) (by show cells + 1 ≤ mc; omega) (by show slots + 6 ≤ ms; omega) CC.2.2.2.1 (fun t' hA hz ho => ?_) hF.2.2 (by omega) (by omega)
  · unfold vx_ot
    rcases List.mem_cons.mp hw with rfl | hw
    · rw [l3.2]; simp
    · rcases List.mem_cons.mp hw with rfl | hw
      · rw [l4.2]; simp
      · have h9 := (l5 w hw).2
        cases hg : goodWord w with
        | true => simp
        | false =>
          rw [hg] at h9
          cases w <;> first | rfl | exact absurd h9 (by simp [isNest])
  · refine ⟨_, hX, ⟨fun q => ?_, hR.2.1, fun z => absurd (show 200 ≤ 0 from z) (by decide), Nat.le_trans hR.2.2.2 hz⟩, ?_⟩
    · refine cellA_congr (t := t) rfl rfl rfl (fun hk => ?_) (hR.1 q)
      have h9 := hR.1 q
      unfold cellA at h9
      dsimp only at h9
      rcases hkq : K q with ⟨a, b⟩
      rw [hkq] at h9 hk
      rcases a with _ | _ | a
      · exact absurd rfl hk
      · obtain ⟨r, r1, cell, r2, r3⟩ := h9
        exact ho _ (Array.getElem?_eq_some_iff.mp r2).1
      · have h6 : H[ad G q]? = some (arrV (G.2.1 (a + 2)) b (fun j => ev G I L R (a + 2) q j)) := h9
        exact ho _ (Array.getElem?_eq_some_iff.mp h6).1
    · exact ⟨Nat.le_trans hF.1 hz, fun q q1 q2 => (ho q (Nat.lt_of_lt_of_le q1 hF.1)).trans (hF.2.1 q q1 q2)⟩
end B1
end
section
/-! ===== the rules of AW: catching, inherited methods, switches ===== -/
section B2
variable {S : aS} {C C' : aM} {d d' : Nat} {Q Q' : Option Value → aH → Prop} {X X' : String → aH → Prop} {k1 k2 j1 j2 pc np tgt n : Nat} {w : Int32} {ls ls' : List (Option Value)} {st st' st0 : List Value} {h : aH} {ins : Instr} {As : List Value}
/-- a handler's row takes E, those ahead of it don't: their classes' names, by the pool -/
def hTake (S : aS) (C : aM) (pc : Nat) (E : String) : List (Nat × Nat × Nat × Nat) → Nat → Prop
  | [], _ => False
  | r :: rs, hpc => (r.1 ≤ pc ∧ pc < r.2.1 ∧ r.2.2.2 ≠ 0) ∧ ∃ nm, inT (.classLink C.1.cls r.2.2.2 nm) ∧ ((inX (.castable E nm) ∧ r.2.2.1 = hpc) ∨ ((E, nm) ∈ S.2.2.2.2.2 ∧ hTake S C pc E rs hpc))
theorem hTake_split {S : aS} {C : aM} {pc hpc : Nat} {E : String} {l : List (Nat × Nat × Nat × Nat)} (h : hTake S C pc E l hpc) : ∃ pre x suf nm, l = pre ++ x :: suf ∧ (x.1 ≤ pc ∧ pc < x.2.1 ∧ x.2.2.2 ≠ 0) ∧ x.2.2.1 = hpc ∧ inT (.classLink C.1.cls x.2.2.2 nm) ∧ inX (.castable E nm) ∧ ∀ z ∈ pre, z.2.2.2 ≠ 0 ∧ ∃ nm, inT (.classLink C.1.cls z.2.2.2 nm) ∧ (E, nm) ∈ S.2.2.2.2.2 := by
  induction l with
  | nil => exact False.elim h
  | cons r rs ih =>
    obtain ⟨h0, nm, h1, h2⟩ := h
    rcases h2 with ⟨h2, h3⟩ | ⟨h2, h3⟩
    · exact ⟨[], r, rs, nm, rfl, h0, h3, h1, h2, fun z hz => by cases hz⟩
    · obtain ⟨pre, x, suf, nm', e, g1, g2, g3, g4, g5⟩ := ih h3
      refine ⟨r :: pre, x, suf, nm', by rw [e]; rfl, g1, g2, g3, g4, fun z hz => ?_⟩
      rcases List.mem_cons.mp hz with rfl | hz
      · exact ⟨h0.2.2, nm, h1, h2⟩
      · exact g5 z hz
def lforget : List (Option Value) → Nat → List (Option Value)
  | [], _ => []
  | _ :: r, 0 => none :: r
  | a :: r, 1 => kill a :: lforget r 0
  | a :: r, n + 2 => a :: lforget r (n + 1)
theorem lg_lforget {ls : List (Option Value)} {i j : Nat} {x : Value} (h : lg (lforget ls i) j = some x) : j ≠ i ∧ lg ls j = some x ∧ ¬ (j + 1 = i ∧ x.category = 2) := by
  induction ls generalizing i j with
  | nil => simp [lforget, lg] at h
  | cons a r ih =>
    rcases i with _ | _ | i
    · rcases j with _ | j
      · simp [lforget, lg] at h
      · exact ⟨by omega, h, by omega⟩
    · rcases j with _ | j
      · simp only [lforget, lg] at h
        obtain ⟨h1, h2⟩ := kill_some h
        exact ⟨by omega, h1, by omega⟩
      · simp only [lforget, lg] at h
        obtain ⟨h1, h2, h3⟩ := ih h
        exact ⟨by omega, h2, by omega⟩
    · rcases j with _ | j
      · exact ⟨by omega, h, by omega⟩
      · simp only [lforget, lg] at h
        obtain ⟨h1, h2, h3⟩ := ih h
        exact ⟨by omega, h2, fun z => h3 ⟨by omega, z.2⟩⟩
/-- a method called within a handler's reach; the handler begins with the storing of what it caught -/
theorem a_callVc {idx q : Nat} (hC : look C pc = some (.invokevirtual idx, np, tgt, w)) (hl : LK C.1.cls idx C') (hM : MOv C' n) (hs : Sp S C' d' j1 j2 (.ref q :: As) h Q' X') (hn : As.length = n) (h0 : st0 = As.reverse ++ .ref q :: st) (ho : cOk d d' j1 j2 k1 k2 st = true) (hq : rcv h q C'.1.cls)
    (kr : ∀ v h', Q' v h' → AW S C d Q X (k1 - j1) (k2 - j2) np ls (v.toList ++ st) h')
    (kx : ∀ E h', X' E h' → ∃ (hpc : Nat) (ins2 : Instr) (np2 tgt2 : Nat) (w2 : Int32) (i : Nat), hTake S C pc E C.2.2.2.2.1 hpc ∧ look C hpc = some (ins2, np2, tgt2, w2) ∧ stI ins2 = some (i, 1) ∧ i < C.2.2.1 ∧ AW S C d Q X (k1 - j1) (k2 - j2) np2 (lforget ls i) [] h') : AW S C d Q X k1 k2 pc ls st0 h := by
  intro p l e s m args below meth c H la locs cells slots mc ms G CC hS hL hR hF h1 h2
  obtain ⟨hd, rfl, -⟩ := okd CC.2.2.2.2.2.2.2.2.2 hC rfl
  obtain ⟨g0, g1, g2, g3⟩ := cOk_spec ho
  subst h0
  have tk : ∀ x, inT x → x.before args s = true := fun x hx => gT_ok hS _ (inT_gT hx)
  have hr := vx_runV (R := rmD d mc ms) (p := p) (l := l) (e := e) (s := s) (m := m) (args := args) (below := below) (meth := meth) (c := c) (H := H) (locs := locs) (cells := cells) (slots := slots) (rest := st.map (mv G)) (g := F0 m pc la ((As.reverse ++ .ref q :: st).map (mv G))) (Ts := gT) (As := As.map (mv G)) (b := ad G q) ⟨CC.1, CC.2.1, CC.2.2.2.2.1, CC.2.2.2.2.2.1, gT_ok hS⟩ (hs l G CC.2.2.2.2.2.2.2.1) ⟨cb_of (mc := mc) (ms := ms) hS hM.1 hl g0, gT_ok hS _ (inT_gT hM.2.1), gT_ok hS _ (inT_gT hM.2.2)⟩ ⟨PcM.blind, rcv_of hS hR hq, pc_of (As := .ref q :: As) hS hR hF⟩ rfl (by simpa using hn) hL.1 (by simp [mv]) (lv_room (by rw [cat_map]; exact g3)) hd ⟨by show cells + j1 ≤ mc; omega, by show slots + j2 ≤ ms; omega⟩
  refine go_run hr hF (fun v h' H' locs' q1 q2 q3 => ?_) (fun E h' qe ce H' locs' q1 q2 q3 q4 q5 q6 => ?_)
  · have K := kr v h' q1 p l e s m args below meth c H' la locs' (cells + j1) (slots + j2) mc ms G CC hS hL q2 q3 (by omega) (by omega)
    have e1 : (v.toList ++ st).map (mv G) = (Option.map (mv G) v).toList ++ st.map (mv G) := by cases v <;> simp
    rw [e1] at K
    exact K
  · obtain ⟨hpc, ins2, np2, tgt2, w2, i, t1, t2, t3, t4, t5⟩ := kx E h' q1
    obtain ⟨pre, x, suf, nm, e1, e2, e3, e4, e5, e6⟩ := hTake_split t1
    have htab : c.exceptionTable.toList = tableOf pre ++ (⟨x.1, x.2.1, x.2.2.1, x.2.2.2⟩ : ExceptionTableEntry) :: tableOf suf := by
      rw [CC.2.2.2.2.2.2.2.2.1, e1]
      simp [tableOf]
    refine vx_catch CC.2.2.2.2.2.1 (tableOf pre) _ (tableOf suf) htab (fun z hz => ?_) (by simp [covers, e2.1, e2.2.1]) e2.2.2 (tk _ e4) (hS.2.2.1 _ e5.1 e5.2 args) q4 q5 q6 ?_
    · obtain ⟨y, hy, rfl⟩ := List.mem_map.mp hz
      obtain ⟨f1, nm', f2, f3⟩ := e6 y hy
      exact Or.inr ⟨f1, nm', tk _ f2, hS.2.2.2.2.2.1 _ f3⟩
    · rw [show (⟨x.1, x.2.1, x.2.2.1, x.2.2.2⟩ : ExceptionTableEntry).handlerPc = hpc from e3]
      have K : ∀ la', HL G la' C.2.2.1 (lforget ls i) → W p l e (rmD d mc ms) s m args below meth c H' locs' (cells + j1) (slots + j2) (vx_MQ below (QcM G Q) (XcM G X) args s mc ms (aA G)) (F0 m np2 la' ([].map (mv G))) := fun la' hla => t5 p l e s m args below meth c H' la' locs' (cells + j1) (slots + j2) mc ms G CC hS hla q2 q3 (by omega) (by omega)
      have hO := CC.2.2.2.2.2.2.2.2.2
      have hh := hL.has
      unfold stI at t3
      have fin : ∀ (la' : Array Slot), lv_has la' C.2.2.1 ((i, .ref qe) :: (llO G 0 ls).filter (fun q => !(q.1 == i) && !(q.1 + 1 == i && q.2.category == 2))) → HL G la' C.2.2.1 (lforget ls i) := by
        intro la' hla
        refine ⟨hla.1, hla.2.1, fun j y hj => ?_⟩
        obtain ⟨r1, r2, r3⟩ := lg_lforget hj
        refine hla.2.2 (j, mv G y) (List.mem_cons_of_mem _ (List.mem_filter.mpr ⟨llO_mem.mpr ⟨j, y, r2, by simp⟩, ?_⟩))
        simp only [Bool.and_eq_true, Bool.not_eq_true', beq_eq_false_iff_ne, ne_eq, Bool.and_eq_false_iff, mv_cat]
        refine ⟨r1, ?_⟩
        by_cases z : j + 1 = i
        · exact Or.inr fun y => r3 ⟨z, y⟩
        · exact Or.inl z
      split at t3 <;> first | (cases t3; done) | (cases t3; obtain ⟨hd2, rfl, -⟩ := okd hO t2 rfl)
      · exact lv_astore CC.1 CC.2.1 hd2 hh t4 rfl (fun la' z => K la' (fin la' z))
      · exact lv_astore_n CC.1 CC.2.1 hd2 rfl hh t4 rfl (fun la' z => K la' (fin la' z))
/-- a method found by the receiver's class: inherited, or of a class below -/
theorem a_callU {idx q : Nat} {x : MethodName} {owner cn : String} (hC : look C pc = some (.invokevirtual idx, np, tgt, w)) (hl : ∀ z ∈ [Cond.methodLink C.1.cls idx x, .sameMethod x.cls owner x.name x.desc, .selects cn x C'.1, .instanceMethod C'.1], inT z) (hdc : ∀ (G : aG) (s : State), SW S G s → va_Decl s ⟨owner, x.name, x.desc⟩) (hM : MO C' n) (hx : owner ≠ "java/lang/invoke/MethodHandle" ∧ owner ≠ "java/lang/invoke/VarHandle" ∧ (parseMethodDescriptor x.desc).map (fun d => d.parameters.length) = some n) (hs : Sp S C' d' j1 j2 (.ref q :: As) h Q' X') (hn : As.length = n) (h0 : st0 = As.reverse ++ .ref q :: st) (ho : cOk d d' j1 j2 k1 k2 st = true) (hq : rcv h q cn) (hh : C.2.2.2.2.1 = [])
    (kr : ∀ v h', Q' v h' → AW S C d Q X (k1 - j1) (k2 - j2) np ls (v.toList ++ st) h') (kx : ∀ E h', X' E h' → X E h') : AW S C d Q X k1 k2 pc ls st0 h := by
  intro p l e s m args below meth c H la locs cells slots mc ms G CC hS hL hR hF h1 h2
  obtain ⟨hd, rfl, -⟩ := okd CC.2.2.2.2.2.2.2.2.2 hC rfl
  obtain ⟨g0, g1, g2, g3⟩ := cOk_spec ho
  subst h0
  have tk : ∀ x, inT x → x.before args s = true := fun x hx => gT_ok hS _ (inT_gT hx)
  have hml := hM.2.2.2.2
  have hc : Cond.code C'.1 C'.2.1 C'.2.2.1 C'.2.2.2.1 ∈ [mW C'] := by rw [mW_code hM.1]; exact List.mem_cons_self
  have cu : va_CU (rmD d mc ms) s args C.1.cls cn owner idx x C'.1 C'.2.1 C'.2.2.1 C'.2.2.2.1 [mW C'] (rmD d' j1 j2) j1 j2 n := by
    refine ⟨⟨rfl, rfl, by show d' + 998 + 1 ≤ d + 998; omega, ?_, pay_in (gT_ok (args := args) hS) (good_gT hM.ws), hc⟩, tk _ hM.2.1, tk _ hM.2.2.1, ⟨hx.1, hx.2.1⟩, fun sig hsig => ?_, tk _ (hl _ (by simp)), tk _ (hl _ (by simp)), hdc G s hS, tk _ (hl _ (by simp)), tk _ (hl _ (by simp))⟩
    · show 8 + (C'.2.2.1 + 11) + 80 * d' ≤ 80 * d
      omega
    · have h2 := hx.2.2
      rw [hsig] at h2
      exact (Option.some.inj h2).symm
  refine a_end CC hS hL hF h1 h2 g1 g2 hh (vx_runU (Ts := gT) (As := As.map (mv G)) (b := ad G q) ⟨CC.1, CC.2.1, CC.2.2.2.2.1, CC.2.2.2.2.2.1, gT_ok hS⟩ (hs l G CC.2.2.2.2.2.2.2.1) cu ⟨PcM.blind, rcv_of hS hR hq, pc_of (As := .ref q :: As) hS hR hF⟩ rfl (by simpa using hn) hL.1 (by simp [mv]) (lv_room (by rw [cat_map]; exact g3)) hd ⟨by show cells + j1 ≤ mc; omega, by show slots + j2 ≤ ms; omega⟩) kr kx
/-- a method of a constant object -/
theorem a_callK {idx q : Nat} (hC : look C pc = some (.invokevirtual idx, np, tgt, w)) (hl : LK C.1.cls idx C') (hM : MOv C' n) (hs : Sp S C' d' j1 j2 (.ref q :: As) h Q' X') (hn : As.length = n) (h0 : st0 = As.reverse ++ .ref q :: st) (ho : cOk d d' j1 j2 k1 k2 st = true) (hq : (q, C'.1.cls) ∈ S.2.1) (hh : C.2.2.2.2.1 = [])
    (kr : ∀ v h', Q' v h' → AW S C d Q X (k1 - j1) (k2 - j2) np ls (v.toList ++ st) h') (kx : ∀ E h', X' E h' → X E h') : AW S C d Q X k1 k2 pc ls st0 h := by
  intro p l e s m args below meth c H la locs cells slots mc ms G CC hS hL hR hF h1 h2
  obtain ⟨hd, rfl, -⟩ := okd CC.2.2.2.2.2.2.2.2.2 hC rfl
  obtain ⟨g0, g1, g2, g3⟩ := cOk_spec ho
  subst h0
  obtain ⟨cell, c1, c2, c3, c4⟩ := hS.2.2.2.1.2.2.1 _ hq
  have hrc : ∃ cellB : Cell, H[ad G q]? = some cellB ∧ cellB.vm.isStatics = false ∧ s.vm.findClass C'.1.cls = some cellB.cls := by
    refine ⟨cell, ?_, c2, c3⟩
    rw [hF.2.1 _ (Array.getElem?_eq_some_iff.mp c1).1 c4]
    exact c1
  refine a_end CC hS hL hF h1 h2 g1 g2 hh (vx_runV (Ts := gT) (As := As.map (mv G)) (b := ad G q) ⟨CC.1, CC.2.1, CC.2.2.2.2.1, CC.2.2.2.2.2.1, gT_ok hS⟩ (hs l G CC.2.2.2.2.2.2.2.1) ⟨cb_of hS hM.1 hl g0, gT_ok hS _ (inT_gT hM.2.1), gT_ok hS _ (inT_gT hM.2.2)⟩ ⟨PcM.blind, hrc, pc_of (As := .ref q :: As) hS hR hF⟩ rfl (by simpa using hn) hL.1 (by simp [mv]) (lv_room (by rw [cat_map]; exact g3)) hd ⟨by show cells + j1 ≤ mc; omega, by show slots + j2 ≤ ms; omega⟩) kr kx
/-! switches: the target by a program over the number -/
def swT (pc : Nat) (dflt lo hi : Int) (offs : Array Int) (x : Int) : Option Nat := if x < lo ∨ hi < x then some ((pc : Int) + dflt).toNat else (offs[(x - lo).toNat]?).map fun o => ((pc : Int) + o).toNat
theorem a_tsw {dflt lo hi : Int} {offs : Array Int} {x : Int32} {tg : Nat} (hC : look C pc = some (.tableswitch dflt lo hi offs, np, tgt, w)) (hT : swT pc dflt lo hi offs x.toInt = some tg) (hpos : 0 ≤ (pc : Int) + dflt ∧ ∀ o ∈ offs, 0 ≤ (pc : Int) + o) (kk : AW S C d Q X k1 k2 tg ls st h) : AW S C d Q X k1 k2 pc ls (.int x :: st) h := by
  intro p l e s m args below meth c H la locs cells slots mc ms G CC hS hL hR hF h1 h2
  have hd := (CC.2.2.2.2.2.2.2.2.2 _ _ hC).2.1
  have K := kk p l e s m args below meth c H la locs cells slots mc ms G CC hS hL hR hF h1 h2
  unfold swT at hT
  by_cases hx : x.toInt < lo ∨ hi < x.toInt
  · rw [if_pos hx] at hT
    cases hT
    exact lv_tableOut CC.1 CC.2.1 hd hx (by have := hpos.1; omega) K
  · rw [if_neg hx] at hT
    cases ho : offs[(x.toInt - lo).toNat]? with
    | none => rw [ho] at hT; cases hT
    | some o =>
      rw [ho] at hT
      cases hT
      exact lv_tableIn CC.1 CC.2.1 hd (fun z => hx (Or.inl z)) (fun z => hx (Or.inr z)) ho (by have h7 := hpos.2 o (Array.mem_of_getElem? ho); show (pc : Int) + o = (((pc : Int) + o).toNat : Int); omega) K
theorem a_lsw {dflt : Int} {ps : Array (Int × Int)} {x : Int32} {tg : Nat} (hC : look C pc = some (.lookupswitch dflt ps, np, tgt, w)) (hp : (ps.toList.zip (ps.toList.drop 1)).all (fun (a, next) => a.1 < next.1) = true) (hT : (pc : Int) + Op.lookupswitch.offset ps.toList dflt x.toInt = (tg : Int)) (kk : AW S C d Q X k1 k2 tg ls st h) : AW S C d Q X k1 k2 pc ls (.int x :: st) h := by
  intro p l e s m args below meth c H la locs cells slots mc ms G CC hS hL hR hF h1 h2
  have hd := (CC.2.2.2.2.2.2.2.2.2 _ _ hC).2.1
  exact lv_lookup CC.1 CC.2.1 hd hp rfl hT (kk p l e s m args below meth c H la locs cells slots mc ms G CC hS hL hR hF h1 h2)
end B2
end
