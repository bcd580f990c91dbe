set_option maxRecDepth 100000 in
theorem m_okL_10 : [m_tL_80, m_tL_81, m_tL_82, m_tL_83, m_tL_84, m_tL_85, m_tL_86, m_tL_87].all (fun c => c.all (m_ck1 1000)) = true := by decide +kernel
set_option maxRecDepth 100000 in
theorem m_okL_11 : [m_tL_88, m_tL_89, m_tL_90, m_tL_91, m_tL_92, m_tL_93, m_tL_94, m_tL_95].all (fun c => c.all (m_ck1 1000)) = true := by decide +kernel
set_option maxRecDepth 100000 in
theorem m_okL_12 : [m_tL_96, m_tL_97, m_tL_98, m_tL_99, m_tL_100, m_tL_101, m_tL_102, m_tL_103].all (fun c => c.all (m_ck1 1000)) = true := by decide +kernel
set_option maxRecDepth 100000 in
theorem m_okL_13 : [m_tL_104, m_tL_105, m_tL_106, m_tL_107, m_tL_108, m_tL_109, m_tL_110, m_tL_111].all (fun c => c.all (m_ck1 1000)) = true := by decide +kernel
set_option maxRecDepth 100000 in
theorem m_okL_14 : [m_tL_112, m_tL_113, m_tL_114, m_tL_115, m_tL_116, m_tL_117, m_tL_118, m_tL_119].all (fun c => c.all (m_ck1 1000)) = true := by decide +kernel
