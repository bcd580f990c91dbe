set_option maxRecDepth 100000 in
theorem m_okL_0 : [m_tL_0, m_tL_1, m_tL_2, m_tL_3, m_tL_4, m_tL_5, m_tL_6, m_tL_7].all (fun c => c.all (m_ck1 1000)) = true := by decide +kernel
set_option maxRecDepth 100000 in
theorem m_okL_1 : [m_tL_8, m_tL_9, m_tL_10, m_tL_11, m_tL_12, m_tL_13, m_tL_14, m_tL_15].all (fun c => c.all (m_ck1 1000)) = true := by decide +kernel
set_option maxRecDepth 100000 in
theorem m_okL_2 : [m_tL_16, m_tL_17, m_tL_18, m_tL_19, m_tL_20, m_tL_21, m_tL_22, m_tL_23].all (fun c => c.all (m_ck1 1000)) = true := by decide +kernel
set_option maxRecDepth 100000 in
theorem m_okL_3 : [m_tL_24, m_tL_25, m_tL_26, m_tL_27, m_tL_28, m_tL_29, m_tL_30, m_tL_31].all (fun c => c.all (m_ck1 1000)) = true := by decide +kernel
set_option maxRecDepth 100000 in
theorem m_okL_4 : [m_tL_32, m_tL_33, m_tL_34, m_tL_35, m_tL_36, m_tL_37, m_tL_38, m_tL_39].all (fun c => c.all (m_ck1 1000)) = true := by decide +kernel
