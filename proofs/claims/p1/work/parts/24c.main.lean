set_option maxRecDepth 100000 in
theorem okL_24 : kL_24.all (okE m_L_main) = true := by decide +kernel
set_option maxRecDepth 100000 in
theorem okL_25 : kL_25.all (okE m_L_main) = true := by decide +kernel
set_option maxRecDepth 100000 in
theorem okL_26 : kL_26.all (okE m_L_main) = true := by decide +kernel
set_option maxRecDepth 100000 in
theorem okL_27 : kL_27.all (okE m_L_main) = true := by decide +kernel
set_option maxRecDepth 100000 in
theorem okL_28 : kL_28.all (okE m_L_main) = true := by decide +kernel
set_option maxRecDepth 100000 in
theorem okL_29 : kL_29.all (okE m_L_main) = true := by decide +kernel
set_option maxRecDepth 100000 in
theorem okL_30 : kL_30.all (okE m_L_main) = true := by decide +kernel
set_option maxRecDepth 100000 in
theorem okL_31 : kL_31.all (okE m_L_main) = true := by decide +kernel
set_option maxRecDepth 100000 in
theorem okL_32 : kL_32.all (okE m_L_main) = true := by decide +kernel
set_option maxRecDepth 100000 in
theorem okL_33 : kL_33.all (okE m_L_main) = true := by decide +kernel
set_option maxRecDepth 100000 in
theorem okL_34 : kL_34.all (okE m_L_main) = true := by decide +kernel
set_option maxRecDepth 100000 in
theorem okL_35 : kL_35.all (okE m_L_main) = true := by decide +kernel
