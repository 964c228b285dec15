set_option maxRecDepth 100000 in
theorem okL_12 : kL_12.all (okE m_L_main) = true := by decide +kernel
set_option maxRecDepth 100000 in
theorem okL_13 : kL_13.all (okE m_L_main) = true := by decide +kernel
set_option maxRecDepth 100000 in
theorem okL_14 : kL_14.all (okE m_L_main) = true := by decide +kernel
set_option maxRecDepth 100000 in
theorem okL_15 : kL_15.all (okE m_L_main) = true := by decide +kernel
set_option maxRecDepth 100000 in
theorem okL_16 : kL_16.all (okE m_L_main) = true := by decide +kernel
set_option maxRecDepth 100000 in
theorem okL_17 : kL_17.all (okE m_L_main) = true := by decide +kernel
set_option maxRecDepth 100000 in
theorem okL_18 : kL_18.all (okE m_L_main) = true := by decide +kernel
set_option maxRecDepth 100000 in
theorem okL_19 : kL_19.all (okE m_L_main) = true := by decide +kernel
set_option maxRecDepth 100000 in
theorem okL_20 : kL_20.all (okE m_L_main) = true := by decide +kernel
set_option maxRecDepth 100000 in
theorem okL_21 : kL_21.all (okE m_L_main) = true := by decide +kernel
set_option maxRecDepth 100000 in
theorem okL_22 : kL_22.all (okE m_L_main) = true := by decide +kernel
set_option maxRecDepth 100000 in
theorem okL_23 : kL_23.all (okE m_L_main) = true := by decide +kernel
