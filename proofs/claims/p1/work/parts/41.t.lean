set_option maxRecDepth 100000 in
theorem m_okL_5 : [m_tL_40, m_tL_41, m_tL_42, m_tL_43, m_tL_44, m_tL_45, m_tL_46, m_tL_47].all (fun c => c.all (m_ck1 1000)) = true := by decide +kernel
set_option maxRecDepth 100000 in
theorem m_okL_6 : [m_tL_48, m_tL_49, m_tL_50, m_tL_51, m_tL_52, m_tL_53, m_tL_54, m_tL_55].all (fun c => c.all (m_ck1 1000)) = true := by decide +kernel
set_option maxRecDepth 100000 in
theorem m_okL_7 : [m_tL_56, m_tL_57, m_tL_58, m_tL_59, m_tL_60, m_tL_61, m_tL_62, m_tL_63].all (fun c => c.all (m_ck1 1000)) = true := by decide +kernel
set_option maxRecDepth 100000 in
theorem m_okL_8 : [m_tL_64, m_tL_65, m_tL_66, m_tL_67, m_tL_68, m_tL_69, m_tL_70, m_tL_71].all (fun c => c.all (m_ck1 1000)) = true := by decide +kernel
set_option maxRecDepth 100000 in
theorem m_okL_9 : [m_tL_72, m_tL_73, m_tL_74, m_tL_75, m_tL_76, m_tL_77, m_tL_78, m_tL_79].all (fun c => c.all (m_ck1 1000)) = true := by decide +kernel
