set_option maxRecDepth 100000 in
theorem okL_24 : kL_24.all (okE m_L_main) = true := by decide +kernel
set_option maxRecDepth 100000 in
theorem okL_25 : kL_25.all (okE m_L_main) = true := by decide +kernel
set_option maxRecDepth 100000 in
theorem okL_26 : kL_26.all (okE m_L_main) = true := by decide +kernel
set_option maxRecDepth 100000 in
theorem okL_27 : kL_27.all (okE m_L_main) = true := by decide +kernel
set_option maxRecDepth 100000 in
theorem okL_28 : kL_28.all (okE m_L_main) = true := by decide +kernel
set_option maxRecDepth 100000 in
theorem okL_29 : kL_29.all (okE m_L_main) = true := by decide +kernel
set_option maxRecDepth 100000 in
theorem okL_30 : kL_30.all (okE m_L_main) = true := by decide +kernel
theorem ok_L_main : okM m_L_main = true := by
  have h : m_L_main.2.2.2.2.2.all (fun r => r.all (okE m_L_main)) = true := by
    show List.all [kL_0, kL_1, kL_2, kL_3, kL_4, kL_5, kL_6, kL_7, kL_8, kL_9, kL_10, kL_11, kL_12, kL_13, kL_14, kL_15, kL_16, kL_17, kL_18, kL_19, kL_20, kL_21, kL_22, kL_23, kL_24, kL_25, kL_26, kL_27, kL_28, kL_29, kL_30] (fun r => r.all (okE m_L_main)) = true
    simp only [List.all_cons, List.all_nil, okL_0, okL_1, okL_2, okL_3, okL_4, okL_5, okL_6, okL_7, okL_8, okL_9, okL_10, okL_11, okL_12, okL_13, okL_14, okL_15, okL_16, okL_17, okL_18, okL_19, okL_20, okL_21, okL_22, okL_23, okL_24, okL_25, okL_26, okL_27, okL_28, okL_29, okL_30, Bool.and_self]
  unfold okM
  rw [h]
  decide +kernel
